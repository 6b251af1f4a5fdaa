theorem ask_ne (m : Mem) (h p q f : Int) {r : Nat} (hr : r ≠ 3) : askm m h p q f r = m r := by unfold askm; rw [stm_ne _ _ _ hr, stm_ne _ _ _ hr, stm_ne _ _ _ hr, stm_ne _ _ _ hr]
theorem ask_lo (m : Mem) (h p q f : Int) {i : Int} (hi : i < 80) : askm m h p q f 3 i = m 3 i := by unfold askm; rw [stm_ix _ _ _ (by omega), stm_ix _ _ _ (by omega), stm_ix _ _ _ (by omega), stm_ix _ _ _ (by omega)]
theorem ask_hi (m : Mem) (h p q f : Int) : askm m h p q f 3 80 = h ∧ askm m h p q f 3 81 = p ∧ askm m h p q f 3 82 = q ∧ askm m h p q f 3 83 = f := by
  unfold askm
  refine ⟨?_, ?_, ?_, ?_⟩
  · rw [stm_ix _ _ _ (by decide), stm_ix _ _ _ (by decide), stm_ix _ _ _ (by decide)]; exact stm_eq _ _ _ _
  · rw [stm_ix _ _ _ (by decide), stm_ix _ _ _ (by decide)]; exact stm_eq _ _ _ _
  · rw [stm_ix _ _ _ (by decide)]; exact stm_eq _ _ _ _
  · exact stm_eq _ _ _ _
theorem ask_RVs {m : Mem} (hv : RVs m) (hn : CN m) (h p q f : Int) : RVs (askm m h p q f) := by
  intro k h0 h1 r r0 r1
  have hn2 := hn.2
  rw [ask_ne m h p q f (by decide)] at h1
  rw [ask_lo _ _ _ _ _ (by omega)]
  exact hv k h0 h1 r r0 r1
theorem ask_RV {m : Mem} {h p q f : Int} (h1 : 0 ≤ h ∧ h ≤ 7) (h2 : 0 ≤ p ∧ p ≤ 7) (h3 : 0 ≤ q ∧ q ≤ 7) (h4 : 0 ≤ f ∧ f ≤ 7) : RV (askm m h p q f) 16 := by
  intro r r0 r1
  obtain ⟨e1, e2, e3, e4⟩ := ask_hi m h p q f
  rcases (by omega : r = 0 ∨ r = 1 ∨ r = 2 ∨ r = 3) with rfl | rfl | rfl | rfl
  · show 0 ≤ askm m h p q f 3 80 ∧ askm m h p q f 3 80 ≤ 7; rw [e1]; exact h1
  · show 0 ≤ askm m h p q f 3 81 ∧ askm m h p q f 3 81 ≤ 7; rw [e2]; exact h2
  · show 0 ≤ askm m h p q f 3 82 ∧ askm m h p q f 3 82 ≤ 7; rw [e3]; exact h3
  · show 0 ≤ askm m h p q f 3 83 ∧ askm m h p q f 3 83 ≤ 7; rw [e4]; exact h4
theorem cmm_I {m : Mem} (hM : MR m) (hn : CN m) : CJI m ((m 2 2) * 16) (cmm m) := by
  have h1 := hn.1; have h2 := hn.2
  have := it_Ij (f := fun j x => crw (m 2 2) j x) (fun j x => CJI m (j * 16) x) (m 2 2).toNat 0 (flm m 74 16 0) (fun i y a b c => crw_I h2 (by omega) c) ⟨⟨flm_ne (by decide) _ _ _ _, flm_ne (by decide) _ _ _ _, flm_ne (by decide) _ _ _ _, flm_ne (by decide) _ _ _ _⟩, flm_MR (by decide) _ _ _ hM, fun i a c => by (have h9 := (fl_get (q := 74) (v := 0) 16 0 i m).1 (by omega); unfold flm; omega)⟩
  rw [show (0 : Int) + ((m 2 2).toNat : Int) = m 2 2 by omega] at this
  exact this
theorem fdm_I {m : Mem} (hM : MR m) (hn : CN m) (d : Int) : FSI m (m 2 2) (fdm m d) := by
  have h1 := hn.1; have h2 := hn.2
  have := it_Ij (f := fun k x => fsz k x) (fun j x => FSI m j x) (m 2 2).toNat 0 (fall m d) (fun i y a b c => fsz_I hn (by omega) c) (fs_0 hM hn d)
  rw [show (0 : Int) + ((m 2 2).toNat : Int) = m 2 2 by omega] at this
  exact this
def YP (n : Int) (x : Int × Int) : Prop := x.1 = -1 ∨ ∃ j k, (0 ≤ j ∧ j < n) ∧ (0 ≤ k ∧ k < n) ∧ x.1 = j * 16 + k
theorem yp_I (m : Mem) (hn : CN m) (g : Int) : YP (m 2 2) (yp m g) := by
  have h1 := hn.1
  refine it_I _ _ _ (fun j y hj0 hj hy => it_I _ _ _ (fun k z hk0 hk hz => ?_) hy) (Or.inl rfl)
  unfold ys
  split
  · exact Or.inr ⟨j, k, by omega, by omega, rfl⟩
  · exact hz
theorem s_X11_of {G : GG} {m : Mem} {Q : Option Value → Mem → Prop} {a b : Int} (h : GI m) (ra : rg a) (rb : rg b) (hQ : Q (some (.int (J (if (0 ≤ a ∧ a < m 2 2) ∧ (0 ≤ b ∧ b ≤ 5) then (if b = 5 then co m a else m 3 (a * 5 + b)) else -2)))) (if (0 ≤ a ∧ a < m 2 2) ∧ (0 ≤ b ∧ b ≤ 5) then (m) else ctm m (-2))) : CM G 4 mX11_of [.ref (G.2.2.2 0), .int (J (a)), .int (J (b))] m Q := by
  refine CM.of dkX11_of (Or.inl rfl) [some _, some _, some _] rfl (Nat.le_of_ble_eq_true rfl) ?_
  obtain ⟨hM, ⟨hn, hs, hv, hst, hw, hwd, hpo⟩, hx, htx, htr, her⟩ := h
  have hn0 := hn.1; have hn1 := hn.2; have hs0 := hs.1; have hs1 := hs.2
  refine x_aload_n (i := 0) (pc' := 1) rfl rfl rfl rfl ?_
  refine m_getf (i := 1) (pc' := 4) rfl rfl flX11_10 (sh0 G) rfl rfl ?_
  refine m_getf (i := 2) (pc' := 7) rfl rfl flX11_80 (sh1 G) rfl rfl ?_
  refine x_iload_n (i := 3) (pc' := 8) rfl rfl rfl rfl ?_
  refine m_callV (i := 4) (pc' := 11) (av := [_]) (rest := []) rfl rfl (by decide) lX11_108 (sh2 G) rfl rfl rfl rfl rfl (Nat.le_of_ble_eq_true rfl) (Nat.le_refl _) (Nat.le_refl _) (s_X3_holds hn ra ?_)
  dsimp only [psh]
  refine x_ifeq (i := 5) (pc' := 14) (tgt := 23) rfl rfl (by decide) (by (repeat' split at *) <;> omega) (fun c1 => ?_) (fun c1 => ?_)
  · skip
    refine x_aload_n (i := 11) (pc' := 24) rfl rfl rfl rfl ?_
    refine x_bipush (i := 12) (pc' := 26) rfl rfl (by decide) ?_
    refine m_callV (i := 13) (pc' := 29) (av := [_]) (rest := []) rfl rfl (by decide) lX11_116 (sh0 G) rfl rfl rfl rfl rfl (Nat.le_of_ble_eq_true rfl) (Nat.le_refl _) (Nat.le_refl _) (s_X11_counted her (by omega) ?_)
    dsimp only [psh]
    exact m_ireturn (i := 14) rfl rfl (by (repeat' split at hQ) <;> (repeat' split at *) <;> first | exact hQ | (exfalso; omega))
  · skip
    refine x_iload_n (i := 6) (pc' := 15) rfl rfl rfl rfl ?_
    refine x_iconst (i := 7) (pc' := 16) rfl rfl ?_
    refine x_iconst (i := 8) (pc' := 17) rfl rfl ?_
    refine m_callS (i := 9) (pc' := 20) (av := [_, _, _]) (rest := []) rfl rfl (by decide) lX11_112 rfl rfl (Nat.le_of_ble_eq_true rfl) (Nat.le_refl _) (Nat.le_refl _) (s_X11_isWithin (by omega) (by omega) (by omega) ?_)
    dsimp only [psh]
    refine x_ifne (i := 10) (pc' := 23) (tgt := 30) rfl rfl (by decide) (by (repeat' split at *) <;> omega) (fun c2 => ?_) (fun c2 => ?_)
    · skip
      refine x_aload_n (i := 15) (pc' := 31) rfl rfl rfl rfl ?_
      refine m_getf (i := 16) (pc' := 34) rfl rfl flX11_10 (sh0 G) rfl rfl ?_
      refine x_iload_n (i := 17) (pc' := 35) rfl rfl rfl rfl ?_
      refine x_iload_n (i := 18) (pc' := 36) rfl rfl rfl rfl ?_
      refine m_callV (i := 19) (pc' := 39) (av := [_, _]) (rest := []) rfl rfl (by decide) lX11_119 (sh1 G) rfl rfl rfl rfl rfl (Nat.le_of_ble_eq_true rfl) (Nat.le_refl _) (Nat.le_refl _) (s_X9_signProperty hM hs (by (repeat' split at *) <;> omega) (by (repeat' split at *) <;> omega) ?_)
      dsimp only [psh]
      exact m_ireturn (i := 20) rfl rfl (by (repeat' split at hQ) <;> (repeat' split at *) <;> first | exact hQ | (exfalso; omega))
    · skip
      refine x_aload_n (i := 11) (pc' := 24) rfl rfl rfl rfl ?_
      refine x_bipush (i := 12) (pc' := 26) rfl rfl (by decide) ?_
      refine m_callV (i := 13) (pc' := 29) (av := [_]) (rest := []) rfl rfl (by decide) lX11_116 (sh0 G) rfl rfl rfl rfl rfl (Nat.le_of_ble_eq_true rfl) (Nat.le_refl _) (Nat.le_refl _) (s_X11_counted her (by omega) ?_)
      dsimp only [psh]
      exact m_ireturn (i := 14) rfl rfl (by (repeat' split at hQ) <;> (repeat' split at *) <;> first | exact hQ | (exfalso; omega))
theorem s_X11_apart {G : GG} {m : Mem} {Q : Option Value → Mem → Prop} {a b c : Int} (h : GI m) (ra : rg a) (rb : rg b) (rc : rg c) (hQ : Q (some (.int (J (if ((0 ≤ a ∧ a < m 2 2) ∧ (0 ≤ b ∧ b < m 2 2)) ∧ (0 ≤ c ∧ c ≤ 4) then (if c = 4 then ds m a b else gp c (m 3 (a * 5 + c)) (m 3 (b * 5 + c))) else -2)))) (if ((0 ≤ a ∧ a < m 2 2) ∧ (0 ≤ b ∧ b < m 2 2)) ∧ (0 ≤ c ∧ c ≤ 4) then (m) else ctm m (-2))) : CM G 3 mX11_apart [.ref (G.2.2.2 0), .int (J (a)), .int (J (b)), .int (J (c))] m Q := by
  refine CM.of dkX11_apart (Or.inl rfl) [some _, some _, some _, some _] rfl (Nat.le_of_ble_eq_true rfl) ?_
  obtain ⟨hM, ⟨hn, hs, hv, hst, hw, hwd, hpo⟩, hx, htx, htr, her⟩ := h
  have hn0 := hn.1; have hn1 := hn.2; have hs0 := hs.1; have hs1 := hs.2
  refine x_aload_n (i := 0) (pc' := 1) rfl rfl rfl rfl ?_
  refine m_getf (i := 1) (pc' := 4) rfl rfl flX11_10 (sh0 G) rfl rfl ?_
  refine m_getf (i := 2) (pc' := 7) rfl rfl flX11_80 (sh1 G) rfl rfl ?_
  refine x_iload_n (i := 3) (pc' := 8) rfl rfl rfl rfl ?_
  refine m_callV (i := 4) (pc' := 11) (av := [_]) (rest := []) rfl rfl (by decide) lX11_108 (sh2 G) rfl rfl rfl rfl rfl (Nat.le_of_ble_eq_true rfl) (Nat.le_refl _) (Nat.le_refl _) (s_X3_holds hn (by assumption) ?_)
  dsimp only [psh]
  refine x_ifeq (i := 5) (pc' := 14) (tgt := 37) rfl rfl (by decide) (by (repeat' split at *) <;> omega) (fun c1 => ?_) (fun c1 => ?_)
  · skip
    refine x_aload_n (i := 17) (pc' := 38) rfl rfl rfl rfl ?_
    refine x_bipush (i := 18) (pc' := 40) rfl rfl (by decide) ?_
    refine m_callV (i := 19) (pc' := 43) (av := [_]) (rest := []) rfl rfl (by decide) lX11_116 (sh0 G) rfl rfl rfl rfl rfl (Nat.le_of_ble_eq_true rfl) (Nat.le_refl _) (Nat.le_refl _) (s_X11_counted her (by omega) ?_)
    dsimp only [psh]
    exact m_ireturn (i := 20) rfl rfl (by (repeat' split at hQ) <;> (repeat' split at *) <;> first | exact hQ | (exfalso; omega))
  · skip
    refine x_aload_n (i := 6) (pc' := 15) rfl rfl rfl rfl ?_
    refine m_getf (i := 7) (pc' := 18) rfl rfl flX11_10 (sh0 G) rfl rfl ?_
    refine m_getf (i := 8) (pc' := 21) rfl rfl flX11_80 (sh1 G) rfl rfl ?_
    refine x_iload_n (i := 9) (pc' := 22) rfl rfl rfl rfl ?_
    refine m_callV (i := 10) (pc' := 25) (av := [_]) (rest := []) rfl rfl (by decide) lX11_108 (sh2 G) rfl rfl rfl rfl rfl (Nat.le_of_ble_eq_true rfl) (Nat.le_refl _) (Nat.le_refl _) (s_X3_holds hn (by assumption) ?_)
    dsimp only [psh]
    refine x_ifeq (i := 11) (pc' := 28) (tgt := 37) rfl rfl (by decide) (by (repeat' split at *) <;> omega) (fun c2 => ?_) (fun c2 => ?_)
    · skip
      refine x_aload_n (i := 17) (pc' := 38) rfl rfl rfl rfl ?_
      refine x_bipush (i := 18) (pc' := 40) rfl rfl (by decide) ?_
      refine m_callV (i := 19) (pc' := 43) (av := [_]) (rest := []) rfl rfl (by decide) lX11_116 (sh0 G) rfl rfl rfl rfl rfl (Nat.le_of_ble_eq_true rfl) (Nat.le_refl _) (Nat.le_refl _) (s_X11_counted her (by omega) ?_)
      dsimp only [psh]
      exact m_ireturn (i := 20) rfl rfl (by (repeat' split at hQ) <;> (repeat' split at *) <;> first | exact hQ | (exfalso; omega))
    · skip
      refine x_iload_n (i := 12) (pc' := 29) rfl rfl rfl rfl ?_
      refine x_iconst (i := 13) (pc' := 30) rfl rfl ?_
      refine x_iconst (i := 14) (pc' := 31) rfl rfl ?_
      refine m_callS (i := 15) (pc' := 34) (av := [_, _, _]) (rest := []) rfl rfl (by decide) lX11_112 rfl rfl (Nat.le_of_ble_eq_true rfl) (Nat.le_refl _) (Nat.le_refl _) (s_X11_isWithin (by omega) (by omega) (by omega) ?_)
      dsimp only [psh]
      refine x_ifne (i := 16) (pc' := 37) (tgt := 44) rfl rfl (by decide) (by (repeat' split at *) <;> omega) (fun c3 => ?_) (fun c3 => ?_)
      · skip
        refine x_iload_n (i := 21) (pc' := 45) rfl rfl rfl rfl ?_
        refine x_iconst (i := 22) (pc' := 46) rfl rfl ?_
        refine x_icmpne (i := 23) (pc' := 49) (tgt := 64) rfl rfl (by decide) (by (repeat' split at *) <;> omega) (by (repeat' split at *) <;> omega) (fun c4 => ?_) (fun c4 => ?_)
        · skip
          refine x_aload_n (i := 31) (pc' := 65) rfl rfl rfl rfl ?_
          refine m_getf (i := 32) (pc' := 68) rfl rfl flX11_10 (sh0 G) rfl rfl ?_
          refine m_getf (i := 33) (pc' := 71) rfl rfl flX11_80 (sh1 G) rfl rfl ?_
          refine x_iload_n (i := 34) (pc' := 72) rfl rfl rfl rfl ?_
          refine x_iload_n (i := 35) (pc' := 73) rfl rfl rfl rfl ?_
          refine x_iload_n (i := 36) (pc' := 74) rfl rfl rfl rfl ?_
          refine m_callV (i := 37) (pc' := 77) (av := [_, _, _]) (rest := []) rfl rfl (by decide) lX11_125 (sh2 G) rfl rfl rfl rfl rfl (Nat.le_of_ble_eq_true rfl) (Nat.le_refl _) (Nat.le_refl _) (s_X3_gap (by (repeat' split at *) <;> omega) (by (repeat' split at *) <;> omega) (by (repeat' split at *) <;> omega) (hv a (by (repeat' split at *) <;> omega) (by (repeat' split at *) <;> omega) c (by (repeat' split at *) <;> omega) (by (repeat' split at *) <;> omega)) (hv b (by (repeat' split at *) <;> omega) (by (repeat' split at *) <;> omega) c (by (repeat' split at *) <;> omega) (by (repeat' split at *) <;> omega)) ?_)
          dsimp only [psh]
          exact m_ireturn (i := 38) rfl rfl (by (repeat' split at hQ) <;> (repeat' split at *) <;> first | exact hQ | (exfalso; omega))
        · skip
          refine x_aload_n (i := 24) (pc' := 50) rfl rfl rfl rfl ?_
          refine m_getf (i := 25) (pc' := 53) rfl rfl flX11_10 (sh0 G) rfl rfl ?_
          refine m_getf (i := 26) (pc' := 56) rfl rfl flX11_80 (sh1 G) rfl rfl ?_
          refine x_iload_n (i := 27) (pc' := 57) rfl rfl rfl rfl ?_
          refine x_iload_n (i := 28) (pc' := 58) rfl rfl rfl rfl ?_
          refine m_callV (i := 29) (pc' := 61) (av := [_, _]) (rest := []) rfl rfl (by decide) lX11_122 (sh2 G) rfl rfl rfl rfl rfl (Nat.le_of_ble_eq_true rfl) (Nat.le_refl _) (Nat.le_refl _) (s_X3_distance (by (repeat' split at *) <;> omega) (by (repeat' split at *) <;> omega) (hv a (by (repeat' split at *) <;> omega) (by (repeat' split at *) <;> omega)) (hv b (by (repeat' split at *) <;> omega) (by (repeat' split at *) <;> omega)) ?_)
          dsimp only [psh]
          refine x_goto (i := 30) (pc' := 77) rfl (by decide) ?_
          exact m_ireturn (i := 38) rfl rfl (by (repeat' split at hQ) <;> (repeat' split at *) <;> first | exact hQ | (exfalso; omega))
      · skip
        refine x_aload_n (i := 17) (pc' := 38) rfl rfl rfl rfl ?_
        refine x_bipush (i := 18) (pc' := 40) rfl rfl (by decide) ?_
        refine m_callV (i := 19) (pc' := 43) (av := [_]) (rest := []) rfl rfl (by decide) lX11_116 (sh0 G) rfl rfl rfl rfl rfl (Nat.le_of_ble_eq_true rfl) (Nat.le_refl _) (Nat.le_refl _) (s_X11_counted her (by omega) ?_)
        dsimp only [psh]
        exact m_ireturn (i := 20) rfl rfl (by (repeat' split at hQ) <;> (repeat' split at *) <;> first | exact hQ | (exfalso; omega))
theorem s_X11_look {G : GG} {m : Mem} {Q : Option Value → Mem → Prop} {a b c d : Int} (h : GI m) (ra : rg a) (rb : rg b) (rc : rg c) (rd : rg d) (hQ : Q (some (.int (J (if (-1 ≤ a ∧ a ≤ 7) ∧ (-1 ≤ b ∧ b ≤ 7) ∧ (-1 ≤ c ∧ c ≤ 7) ∧ (-1 ≤ d ∧ d ≤ 7) then (mts (askm m a b c d)) else -2)))) (if (-1 ≤ a ∧ a ≤ 7) ∧ (-1 ≤ b ∧ b ≤ 7) ∧ (-1 ≤ c ∧ c ≤ 7) ∧ (-1 ≤ d ∧ d ≤ 7) then (askm m a b c d) else ctm m (-2))) : CM G 3 mX11_look [.ref (G.2.2.2 0), .int (J (a)), .int (J (b)), .int (J (c)), .int (J (d))] m Q := by
  refine CM.of dkX11_look (Or.inl rfl) [some _, some _, some _, some _, some _] rfl (Nat.le_of_ble_eq_true rfl) ?_
  obtain ⟨hM, ⟨hn, hs, hv, hst, hw, hwd, hpo⟩, hx, htx, htr, her⟩ := h
  have hn0 := hn.1; have hn1 := hn.2; have hs0 := hs.1; have hs1 := hs.2
  refine x_iload_n (i := 0) (pc' := 1) rfl rfl rfl rfl ?_
  refine x_iload_n (i := 1) (pc' := 2) rfl rfl rfl rfl ?_
  refine x_iload_n (i := 2) (pc' := 3) rfl rfl rfl rfl ?_
  refine x_iload (i := 3) (pc' := 5) rfl rfl rfl ?_
  refine x_iconst (i := 4) (pc' := 6) rfl rfl ?_
  refine m_callS (i := 5) (pc' := 9) (av := [_, _, _, _, _]) (rest := []) rfl rfl (by decide) lX11_128 rfl rfl (Nat.le_of_ble_eq_true rfl) (Nat.le_refl _) (Nat.le_refl _) (s_X11_areWithin ra rb rc rd (by omega) ?_)
  dsimp only [psh]
  refine x_ifne (i := 6) (pc' := 12) (tgt := 19) rfl rfl (by decide) (by (repeat' split at *) <;> omega) (fun c1 => ?_) (fun c1 => ?_)
  · skip
    refine x_aload_n (i := 11) (pc' := 20) rfl rfl rfl rfl ?_
    refine m_getf (i := 12) (pc' := 23) rfl rfl flX11_10 (sh0 G) rfl rfl ?_
    refine m_getf (i := 13) (pc' := 26) rfl rfl flX11_80 (sh1 G) rfl rfl ?_
    refine x_iload_n (i := 14) (pc' := 27) rfl rfl rfl rfl ?_
    refine x_iload_n (i := 15) (pc' := 28) rfl rfl rfl rfl ?_
    refine x_iload_n (i := 16) (pc' := 29) rfl rfl rfl rfl ?_
    refine x_iload (i := 17) (pc' := 31) rfl rfl rfl ?_
    refine m_callV (i := 18) (pc' := 34) (av := [_, _, _, _]) (rest := []) rfl rfl (by decide) lX11_132 (sh2 G) rfl rfl rfl rfl rfl (Nat.le_of_ble_eq_true rfl) (Nat.le_refl _) (Nat.le_refl _) (s_X3_ask ?_)
    dsimp only [psh]
    refine x_aload_n (i := 19) (pc' := 35) rfl rfl rfl rfl ?_
    refine m_getf (i := 20) (pc' := 38) rfl rfl flX11_10 (sh0 G) rfl rfl ?_
    refine m_getf (i := 21) (pc' := 41) rfl rfl flX11_80 (sh1 G) rfl rfl ?_
    refine m_callV (i := 22) (pc' := 44) (av := []) (rest := []) rfl rfl (by decide) lX11_136 (sh2 G) rfl rfl rfl rfl rfl (Nat.le_of_ble_eq_true rfl) (Nat.le_refl _) (Nat.le_refl _) (s_X3_matches (hM.ask ra rb rc rd) hn ?_)
    dsimp only [psh]
    exact m_ireturn (i := 23) rfl rfl (by (repeat' split at hQ) <;> (repeat' split at *) <;> first | exact hQ | (exfalso; omega))
  · skip
    refine x_aload_n (i := 7) (pc' := 13) rfl rfl rfl rfl ?_
    refine x_bipush (i := 8) (pc' := 15) rfl rfl (by decide) ?_
    refine m_callV (i := 9) (pc' := 18) (av := [_]) (rest := []) rfl rfl (by decide) lX11_116 (sh0 G) rfl rfl rfl rfl rfl (Nat.le_of_ble_eq_true rfl) (Nat.le_refl _) (Nat.le_refl _) (s_X11_counted her (by omega) ?_)
    dsimp only [psh]
    exact m_ireturn (i := 10) rfl rfl (by (repeat' split at hQ) <;> (repeat' split at *) <;> first | exact hQ | (exfalso; omega))
theorem s_X11_near {G : GG} {m : Mem} {Q : Option Value → Mem → Prop} {a b : Int} (h : GI m) (ra : rg a) (rb : rg b) (hQ : Q (some (.int (J (if (0 ≤ a ∧ a < m 2 2) ∧ (0 ≤ b ∧ b ≤ 99) then (nb m a b) else -2)))) (if (0 ≤ a ∧ a < m 2 2) ∧ (0 ≤ b ∧ b ≤ 99) then (m) else ctm m (-2))) : CM G 4 mX11_near [.ref (G.2.2.2 0), .int (J (a)), .int (J (b))] m Q := by
  refine CM.of dkX11_near (Or.inl rfl) [some _, some _, some _] rfl (Nat.le_of_ble_eq_true rfl) ?_
  obtain ⟨hM, ⟨hn, hs, hv, hst, hw, hwd, hpo⟩, hx, htx, htr, her⟩ := h
  have hn0 := hn.1; have hn1 := hn.2; have hs0 := hs.1; have hs1 := hs.2
  refine x_aload_n (i := 0) (pc' := 1) rfl rfl rfl rfl ?_
  refine m_getf (i := 1) (pc' := 4) rfl rfl flX11_10 (sh0 G) rfl rfl ?_
  refine m_getf (i := 2) (pc' := 7) rfl rfl flX11_80 (sh1 G) rfl rfl ?_
  refine x_iload_n (i := 3) (pc' := 8) rfl rfl rfl rfl ?_
  refine m_callV (i := 4) (pc' := 11) (av := [_]) (rest := []) rfl rfl (by decide) lX11_108 (sh2 G) rfl rfl rfl rfl rfl (Nat.le_of_ble_eq_true rfl) (Nat.le_refl _) (Nat.le_refl _) (s_X3_holds hn ra ?_)
  dsimp only [psh]
  refine x_ifeq (i := 5) (pc' := 14) (tgt := 24) rfl rfl (by decide) (by (repeat' split at *) <;> omega) (fun c1 => ?_) (fun c1 => ?_)
  · skip
    refine x_aload_n (i := 11) (pc' := 25) rfl rfl rfl rfl ?_
    refine x_bipush (i := 12) (pc' := 27) rfl rfl (by decide) ?_
    refine m_callV (i := 13) (pc' := 30) (av := [_]) (rest := []) rfl rfl (by decide) lX11_116 (sh0 G) rfl rfl rfl rfl rfl (Nat.le_of_ble_eq_true rfl) (Nat.le_refl _) (Nat.le_refl _) (s_X11_counted her (by omega) ?_)
    dsimp only [psh]
    exact m_ireturn (i := 14) rfl rfl (by (repeat' split at hQ) <;> (repeat' split at *) <;> first | exact hQ | (exfalso; omega))
  · skip
    refine x_iload_n (i := 6) (pc' := 15) rfl rfl rfl rfl ?_
    refine x_iconst (i := 7) (pc' := 16) rfl rfl ?_
    refine x_bipush (i := 8) (pc' := 18) rfl rfl (by decide) ?_
    refine m_callS (i := 9) (pc' := 21) (av := [_, _, _]) (rest := []) rfl rfl (by decide) lX11_112 rfl rfl (Nat.le_of_ble_eq_true rfl) (Nat.le_refl _) (Nat.le_refl _) (s_X11_isWithin (by omega) (by omega) (by omega) ?_)
    dsimp only [psh]
    refine x_ifne (i := 10) (pc' := 24) (tgt := 31) rfl rfl (by decide) (by (repeat' split at *) <;> omega) (fun c2 => ?_) (fun c2 => ?_)
    · skip
      refine x_aload_n (i := 15) (pc' := 32) rfl rfl rfl rfl ?_
      refine m_getf (i := 16) (pc' := 35) rfl rfl flX11_10 (sh0 G) rfl rfl ?_
      refine m_getf (i := 17) (pc' := 38) rfl rfl flX11_80 (sh1 G) rfl rfl ?_
      refine x_iload_n (i := 18) (pc' := 39) rfl rfl rfl rfl ?_
      refine x_iload_n (i := 19) (pc' := 40) rfl rfl rfl rfl ?_
      refine m_callV (i := 20) (pc' := 43) (av := [_, _]) (rest := []) rfl rfl (by decide) lX11_140 (sh2 G) rfl rfl rfl rfl rfl (Nat.le_of_ble_eq_true rfl) (Nat.le_refl _) (Nat.le_refl _) (s_X3_neighbours hM hn hv hw (by (repeat' split at *) <;> omega) rb ?_)
      dsimp only [psh]
      exact m_ireturn (i := 21) rfl rfl (by (repeat' split at hQ) <;> (repeat' split at *) <;> first | exact hQ | (exfalso; omega))
    · skip
      refine x_aload_n (i := 11) (pc' := 25) rfl rfl rfl rfl ?_
      refine x_bipush (i := 12) (pc' := 27) rfl rfl (by decide) ?_
      refine m_callV (i := 13) (pc' := 30) (av := [_]) (rest := []) rfl rfl (by decide) lX11_116 (sh0 G) rfl rfl rfl rfl rfl (Nat.le_of_ble_eq_true rfl) (Nat.le_refl _) (Nat.le_refl _) (s_X11_counted her (by omega) ?_)
      dsimp only [psh]
      exact m_ireturn (i := 14) rfl rfl (by (repeat' split at hQ) <;> (repeat' split at *) <;> first | exact hQ | (exfalso; omega))
theorem s_X11_nearest {G : GG} {m : Mem} {Q : Option Value → Mem → Prop} {a b c d : Int} (h : GI m) (ra : rg a) (rb : rg b) (rc : rg c) (rd : rg d) (hQ : Q (some (.int (J (if (0 ≤ a ∧ a ≤ 7) ∧ (0 ≤ b ∧ b ≤ 7) ∧ (0 ≤ c ∧ c ≤ 7) ∧ (0 ≤ d ∧ d ≤ 7) then ((clo (askm m a b c d)).1) else -2)))) (if (0 ≤ a ∧ a ≤ 7) ∧ (0 ≤ b ∧ b ≤ 7) ∧ (0 ≤ c ∧ c ≤ 7) ∧ (0 ≤ d ∧ d ≤ 7) then (askm m a b c d) else ctm m (-2))) : CM G 4 mX11_nearest [.ref (G.2.2.2 0), .int (J (a)), .int (J (b)), .int (J (c)), .int (J (d))] m Q := by
  refine CM.of dkX11_nearest (Or.inl rfl) [some _, some _, some _, some _, some _] rfl (Nat.le_of_ble_eq_true rfl) ?_
  obtain ⟨hM, ⟨hn, hs, hv, hst, hw, hwd, hpo⟩, hx, htx, htr, her⟩ := h
  have hn0 := hn.1; have hn1 := hn.2; have hs0 := hs.1; have hs1 := hs.2
  refine x_iload_n (i := 0) (pc' := 1) rfl rfl rfl rfl ?_
  refine x_iload_n (i := 1) (pc' := 2) rfl rfl rfl rfl ?_
  refine x_iload_n (i := 2) (pc' := 3) rfl rfl rfl rfl ?_
  refine x_iload (i := 3) (pc' := 5) rfl rfl rfl ?_
  refine x_iconst (i := 4) (pc' := 6) rfl rfl ?_
  refine m_callS (i := 5) (pc' := 9) (av := [_, _, _, _, _]) (rest := []) rfl rfl (by decide) lX11_128 rfl rfl (Nat.le_of_ble_eq_true rfl) (Nat.le_refl _) (Nat.le_refl _) (s_X11_areWithin ra rb rc rd (by omega) ?_)
  dsimp only [psh]
  refine x_ifne (i := 6) (pc' := 12) (tgt := 19) rfl rfl (by decide) (by (repeat' split at *) <;> omega) (fun c1 => ?_) (fun c1 => ?_)
  · skip
    refine x_aload_n (i := 11) (pc' := 20) rfl rfl rfl rfl ?_
    refine m_getf (i := 12) (pc' := 23) rfl rfl flX11_10 (sh0 G) rfl rfl ?_
    refine m_getf (i := 13) (pc' := 26) rfl rfl flX11_80 (sh1 G) rfl rfl ?_
    refine x_iload_n (i := 14) (pc' := 27) rfl rfl rfl rfl ?_
    refine x_iload_n (i := 15) (pc' := 28) rfl rfl rfl rfl ?_
    refine x_iload_n (i := 16) (pc' := 29) rfl rfl rfl rfl ?_
    refine x_iload (i := 17) (pc' := 31) rfl rfl rfl ?_
    refine m_callV (i := 18) (pc' := 34) (av := [_, _, _, _]) (rest := []) rfl rfl (by decide) lX11_132 (sh2 G) rfl rfl rfl rfl rfl (Nat.le_of_ble_eq_true rfl) (Nat.le_refl _) (Nat.le_refl _) (s_X3_ask ?_)
    dsimp only [psh]
    refine x_aload_n (i := 19) (pc' := 35) rfl rfl rfl rfl ?_
    refine m_getf (i := 20) (pc' := 38) rfl rfl flX11_10 (sh0 G) rfl rfl ?_
    refine m_getf (i := 21) (pc' := 41) rfl rfl flX11_80 (sh1 G) rfl rfl ?_
    refine m_callV (i := 22) (pc' := 44) (av := []) (rest := []) rfl rfl (by decide) lX11_143 (sh2 G) rfl rfl rfl rfl rfl (Nat.le_of_ble_eq_true rfl) (Nat.le_refl _) (Nat.le_refl _) (s_X3_closest (hM.ask ra rb rc rd) hn (ask_RVs hv hn a b c d) hw (ask_RV (by (repeat' split at *) <;> omega) (by (repeat' split at *) <;> omega) (by (repeat' split at *) <;> omega) (by (repeat' split at *) <;> omega)) ?_)
    dsimp only [psh]
    exact m_ireturn (i := 23) rfl rfl (by (repeat' split at hQ) <;> (repeat' split at *) <;> first | exact hQ | (exfalso; omega))
  · skip
    refine x_aload_n (i := 7) (pc' := 13) rfl rfl rfl rfl ?_
    refine x_bipush (i := 8) (pc' := 15) rfl rfl (by decide) ?_
    refine m_callV (i := 9) (pc' := 18) (av := [_]) (rest := []) rfl rfl (by decide) lX11_116 (sh0 G) rfl rfl rfl rfl rfl (Nat.le_of_ble_eq_true rfl) (Nat.le_refl _) (Nat.le_refl _) (s_X11_counted her (by omega) ?_)
    dsimp only [psh]
    exact m_ireturn (i := 10) rfl rfl (by (repeat' split at hQ) <;> (repeat' split at *) <;> first | exact hQ | (exfalso; omega))
theorem s_X11_sorts {G : GG} {m : Mem} {Q : Option Value → Mem → Prop} {a : Int} (h : GI m) (ra : rg a) (hQ : Q (some (.int (J (if 0 ≤ a ∧ a ≤ 3 then (cs m a) else -2)))) (if 0 ≤ a ∧ a ≤ 3 then (m) else ctm m (-2))) : CM G 2 mX11_sorts [.ref (G.2.2.2 0), .int (J (a))] m Q := by
  refine CM.of dkX11_sorts (Or.inl rfl) [some _, some _] rfl (Nat.le_of_ble_eq_true rfl) ?_
  obtain ⟨hM, ⟨hn, hs, hv, hst, hw, hwd, hpo⟩, hx, htx, htr, her⟩ := h
  have hn0 := hn.1; have hn1 := hn.2; have hs0 := hs.1; have hs1 := hs.2
  refine x_iload_n (i := 0) (pc' := 1) rfl rfl rfl rfl ?_
  refine x_iconst (i := 1) (pc' := 2) rfl rfl ?_
  refine x_iconst (i := 2) (pc' := 3) rfl rfl ?_
  refine m_callS (i := 3) (pc' := 6) (av := [_, _, _]) (rest := []) rfl rfl (by decide) lX11_112 rfl rfl (Nat.le_of_ble_eq_true rfl) (Nat.le_refl _) (Nat.le_refl _) (s_X11_isWithin (by omega) (by omega) (by omega) ?_)
  dsimp only [psh]
  refine x_ifne (i := 4) (pc' := 9) (tgt := 16) rfl rfl (by decide) (by (repeat' split at *) <;> omega) (fun c1 => ?_) (fun c1 => ?_)
  · skip
    refine x_aload_n (i := 9) (pc' := 17) rfl rfl rfl rfl ?_
    refine m_getf (i := 10) (pc' := 20) rfl rfl flX11_10 (sh0 G) rfl rfl ?_
    refine m_getf (i := 11) (pc' := 23) rfl rfl flX11_80 (sh1 G) rfl rfl ?_
    refine x_iload_n (i := 12) (pc' := 24) rfl rfl rfl rfl ?_
    refine m_callV (i := 13) (pc' := 27) (av := [_]) (rest := []) rfl rfl (by decide) lX11_146 (sh2 G) rfl rfl rfl rfl rfl (Nat.le_of_ble_eq_true rfl) (Nat.le_refl _) (Nat.le_refl _) (s_X3_countOfSort hM hn ra ?_)
    dsimp only [psh]
    exact m_ireturn (i := 14) rfl rfl (by (repeat' split at hQ) <;> (repeat' split at *) <;> first | exact hQ | (exfalso; omega))
  · skip
    refine x_aload_n (i := 5) (pc' := 10) rfl rfl rfl rfl ?_
    refine x_bipush (i := 6) (pc' := 12) rfl rfl (by decide) ?_
    refine m_callV (i := 7) (pc' := 15) (av := [_]) (rest := []) rfl rfl (by decide) lX11_116 (sh0 G) rfl rfl rfl rfl rfl (Nat.le_of_ble_eq_true rfl) (Nat.le_refl _) (Nat.le_refl _) (s_X11_counted her (by omega) ?_)
    dsimp only [psh]
    exact m_ireturn (i := 8) rfl rfl (by (repeat' split at hQ) <;> (repeat' split at *) <;> first | exact hQ | (exfalso; omega))
theorem s_X11_groups {G : GG} {m : Mem} {Q : Option Value → Mem → Prop} {a b : Int} (h : GI m) (ra : rg a) (rb : rg b) (hQ : Q (some (.int (J (if (0 ≤ a ∧ a ≤ 99) ∧ (0 ≤ b ∧ b ≤ 1) then (if b = 0 then nu (fdm m a) else gre (fdm m a)) else -2)))) (if (0 ≤ a ∧ a ≤ 99) ∧ (0 ≤ b ∧ b ≤ 1) then (fdm m a) else ctm m (-2))) : CM G 4 mX11_groups [.ref (G.2.2.2 0), .int (J (a)), .int (J (b))] m Q := by
  refine CM.of dkX11_groups (Or.inl rfl) [some _, some _, some _] rfl (Nat.le_of_ble_eq_true rfl) ?_
  obtain ⟨hM, ⟨hn, hs, hv, hst, hw, hwd, hpo⟩, hx, htx, htr, her⟩ := h
  have hn0 := hn.1; have hn1 := hn.2; have hs0 := hs.1; have hs1 := hs.2
  refine x_iload_n (i := 0) (pc' := 1) rfl rfl rfl rfl ?_
  refine x_iconst (i := 1) (pc' := 2) rfl rfl ?_
  refine x_bipush (i := 2) (pc' := 4) rfl rfl (by decide) ?_
  refine m_callS (i := 3) (pc' := 7) (av := [_, _, _]) (rest := []) rfl rfl (by decide) lX11_112 rfl rfl (Nat.le_of_ble_eq_true rfl) (Nat.le_refl _) (Nat.le_refl _) (s_X11_isWithin (by omega) (by omega) (by omega) ?_)
  dsimp only [psh]
  refine x_ifeq (i := 4) (pc' := 10) (tgt := 19) rfl rfl (by decide) (by (repeat' split at *) <;> omega) (fun c1 => ?_) (fun c1 => ?_)
  · skip
    refine x_aload_n (i := 10) (pc' := 20) rfl rfl rfl rfl ?_
    refine x_bipush (i := 11) (pc' := 22) rfl rfl (by decide) ?_
    refine m_callV (i := 12) (pc' := 25) (av := [_]) (rest := []) rfl rfl (by decide) lX11_116 (sh0 G) rfl rfl rfl rfl rfl (Nat.le_of_ble_eq_true rfl) (Nat.le_refl _) (Nat.le_refl _) (s_X11_counted her (by omega) ?_)
    dsimp only [psh]
    exact m_ireturn (i := 13) rfl rfl (by (repeat' split at hQ) <;> (repeat' split at *) <;> first | exact hQ | (exfalso; omega))
  · skip
    refine x_iload_n (i := 5) (pc' := 11) rfl rfl rfl rfl ?_
    refine x_iconst (i := 6) (pc' := 12) rfl rfl ?_
    refine x_iconst (i := 7) (pc' := 13) rfl rfl ?_
    refine m_callS (i := 8) (pc' := 16) (av := [_, _, _]) (rest := []) rfl rfl (by decide) lX11_112 rfl rfl (Nat.le_of_ble_eq_true rfl) (Nat.le_refl _) (Nat.le_refl _) (s_X11_isWithin (by omega) (by omega) (by omega) ?_)
    dsimp only [psh]
    refine x_ifne (i := 9) (pc' := 19) (tgt := 26) rfl rfl (by decide) (by (repeat' split at *) <;> omega) (fun c2 => ?_) (fun c2 => ?_)
    · skip
      refine x_aload_n (i := 14) (pc' := 27) rfl rfl rfl rfl ?_
      refine m_getf (i := 15) (pc' := 30) rfl rfl flX11_61 (sh0 G) rfl rfl ?_
      refine x_aload_n (i := 16) (pc' := 31) rfl rfl rfl rfl ?_
      refine m_getf (i := 17) (pc' := 34) rfl rfl flX11_10 (sh0 G) rfl rfl ?_
      refine m_getf (i := 18) (pc' := 37) rfl rfl flX11_80 (sh1 G) rfl rfl ?_
      refine x_iload_n (i := 19) (pc' := 38) rfl rfl rfl rfl ?_
      refine m_callV (i := 20) (pc' := 41) (av := [_, _]) (rest := []) rfl rfl (by decide) lX11_149 (sh70 G) rfl rfl rfl rfl rfl (Nat.le_of_ble_eq_true rfl) (Nat.le_refl _) (Nat.le_refl _) (s_X1_find hM hn hv hw ra ?_)
      dsimp only [psh]
      refine x_iload_n (i := 21) (pc' := 42) rfl rfl rfl rfl ?_
      refine x_ifne (i := 22) (pc' := 45) (tgt := 55) rfl rfl (by decide) (by (repeat' split at *) <;> omega) (fun c3 => ?_) (fun c3 => ?_)
      · skip
        refine x_aload_n (i := 27) (pc' := 56) rfl rfl rfl rfl ?_
        refine m_getf (i := 28) (pc' := 59) rfl rfl flX11_61 (sh0 G) rfl rfl ?_
        refine m_callV (i := 29) (pc' := 62) (av := []) (rest := []) rfl rfl (by decide) lX11_156 (sh70 G) rfl rfl rfl rfl rfl (Nat.le_of_ble_eq_true rfl) (Nat.le_refl _) (Nat.le_refl _) (s_X1_greatest (fdm_I hM hn a).2.1 ?_)
        dsimp only [psh]
        exact m_ireturn (i := 30) rfl rfl (by (repeat' split at hQ) <;> (repeat' split at *) <;> first | exact hQ | (exfalso; omega))
      · skip
        refine x_aload_n (i := 23) (pc' := 46) rfl rfl rfl rfl ?_
        refine m_getf (i := 24) (pc' := 49) rfl rfl flX11_61 (sh0 G) rfl rfl ?_
        refine m_callV (i := 25) (pc' := 52) (av := []) (rest := []) rfl rfl (by decide) lX11_153 (sh70 G) rfl rfl rfl rfl rfl (Nat.le_of_ble_eq_true rfl) (Nat.le_refl _) (Nat.le_refl _) (s_X1_number (fdm_I hM hn a).2.1 ?_)
        dsimp only [psh]
        refine x_goto (i := 26) (pc' := 62) rfl (by decide) ?_
        exact m_ireturn (i := 30) rfl rfl (by (repeat' split at hQ) <;> (repeat' split at *) <;> first | exact hQ | (exfalso; omega))
    · skip
      refine x_aload_n (i := 10) (pc' := 20) rfl rfl rfl rfl ?_
      refine x_bipush (i := 11) (pc' := 22) rfl rfl (by decide) ?_
      refine m_callV (i := 12) (pc' := 25) (av := [_]) (rest := []) rfl rfl (by decide) lX11_116 (sh0 G) rfl rfl rfl rfl rfl (Nat.le_of_ble_eq_true rfl) (Nat.le_refl _) (Nat.le_refl _) (s_X11_counted her (by omega) ?_)
      dsimp only [psh]
      exact m_ireturn (i := 13) rfl rfl (by (repeat' split at hQ) <;> (repeat' split at *) <;> first | exact hQ | (exfalso; omega))
theorem s_X11_twins {G : GG} {m : Mem} {Q : Option Value → Mem → Prop} {a : Int} (h : GI m) (ra : rg a) (hQ : Q (some (.int (J (if -1 ≤ a ∧ a ≤ 3 then (mpr (cmm m) a) else -2)))) (if -1 ≤ a ∧ a ≤ 3 then (cmm m) else ctm m (-2))) : CM G 3 mX11_twins [.ref (G.2.2.2 0), .int (J (a))] m Q := by
  refine CM.of dkX11_twins (Or.inl rfl) [some _, some _] rfl (Nat.le_of_ble_eq_true rfl) ?_
  obtain ⟨hM, ⟨hn, hs, hv, hst, hw, hwd, hpo⟩, hx, htx, htr, her⟩ := h
  have hn0 := hn.1; have hn1 := hn.2; have hs0 := hs.1; have hs1 := hs.2
  refine x_iload_n (i := 0) (pc' := 1) rfl rfl rfl rfl ?_
  refine x_iconst (i := 1) (pc' := 2) rfl rfl ?_
  refine x_iconst (i := 2) (pc' := 3) rfl rfl ?_
  refine m_callS (i := 3) (pc' := 6) (av := [_, _, _]) (rest := []) rfl rfl (by decide) lX11_112 rfl rfl (Nat.le_of_ble_eq_true rfl) (Nat.le_refl _) (Nat.le_refl _) (s_X11_isWithin (by omega) (by omega) (by omega) ?_)
  dsimp only [psh]
  refine x_ifne (i := 4) (pc' := 9) (tgt := 16) rfl rfl (by decide) (by (repeat' split at *) <;> omega) (fun c1 => ?_) (fun c1 => ?_)
  · skip
    refine x_aload_n (i := 9) (pc' := 17) rfl rfl rfl rfl ?_
    refine m_getf (i := 10) (pc' := 20) rfl rfl flX11_68 (sh0 G) rfl rfl ?_
    refine x_aload_n (i := 11) (pc' := 21) rfl rfl rfl rfl ?_
    refine m_getf (i := 12) (pc' := 24) rfl rfl flX11_10 (sh0 G) rfl rfl ?_
    refine m_getf (i := 13) (pc' := 27) rfl rfl flX11_80 (sh1 G) rfl rfl ?_
    refine m_callV (i := 14) (pc' := 30) (av := [_]) (rest := []) rfl rfl (by decide) lX11_159 (sh73 G) rfl rfl rfl rfl rfl (Nat.le_of_ble_eq_true rfl) (Nat.le_refl _) (Nat.le_refl _) (s_X2_compare hM hn ?_)
    dsimp only [psh]
    refine x_aload_n (i := 15) (pc' := 31) rfl rfl rfl rfl ?_
    refine m_getf (i := 16) (pc' := 34) rfl rfl flX11_68 (sh0 G) rfl rfl ?_
    refine x_iload_n (i := 17) (pc' := 35) rfl rfl rfl rfl ?_
    refine m_callV (i := 18) (pc' := 38) (av := [_]) (rest := []) rfl rfl (by decide) lX11_163 (sh73 G) rfl rfl rfl rfl rfl (Nat.le_of_ble_eq_true rfl) (Nat.le_refl _) (Nat.le_refl _) (s_X2_minimalPairs ra ?_)
    dsimp only [psh]
    exact m_ireturn (i := 19) rfl rfl (by (repeat' split at hQ) <;> (repeat' split at *) <;> first | exact hQ | (exfalso; omega))
  · skip
    refine x_aload_n (i := 5) (pc' := 10) rfl rfl rfl rfl ?_
    refine x_bipush (i := 6) (pc' := 12) rfl rfl (by decide) ?_
    refine m_callV (i := 7) (pc' := 15) (av := [_]) (rest := []) rfl rfl (by decide) lX11_116 (sh0 G) rfl rfl rfl rfl rfl (Nat.le_of_ble_eq_true rfl) (Nat.le_refl _) (Nat.le_refl _) (s_X11_counted her (by omega) ?_)
    dsimp only [psh]
    exact m_ireturn (i := 8) rfl rfl (by (repeat' split at hQ) <;> (repeat' split at *) <;> first | exact hQ | (exfalso; omega))
theorem s_X11_enough {G : GG} {m : Mem} {Q : Option Value → Mem → Prop} {a : Int} (h : GI m) (ra : rg a) (hQ : Q (some (.int (J (if -1 ≤ a ∧ a ≤ 15 then (if a = -1 then lsf (cmm m) else bp (suf (cmm m) a)) else -2)))) (if -1 ≤ a ∧ a ≤ 15 then (cmm m) else ctm m (-2))) : CM G 3 mX11_enough [.ref (G.2.2.2 0), .int (J (a))] m Q := by
  refine CM.of dkX11_enough (Or.inl rfl) [some _, some _] rfl (Nat.le_of_ble_eq_true rfl) ?_
  obtain ⟨hM, ⟨hn, hs, hv, hst, hw, hwd, hpo⟩, hx, htx, htr, her⟩ := h
  have hn0 := hn.1; have hn1 := hn.2; have hs0 := hs.1; have hs1 := hs.2
  have hb := bp_01 (suf (cmm m) a)
  refine x_iload_n (i := 0) (pc' := 1) rfl rfl rfl rfl ?_
  refine x_iconst (i := 1) (pc' := 2) rfl rfl ?_
  refine x_bipush (i := 2) (pc' := 4) rfl rfl (by decide) ?_
  refine m_callS (i := 3) (pc' := 7) (av := [_, _, _]) (rest := []) rfl rfl (by decide) lX11_112 rfl rfl (Nat.le_of_ble_eq_true rfl) (Nat.le_refl _) (Nat.le_refl _) (s_X11_isWithin (by omega) (by omega) (by omega) ?_)
  dsimp only [psh]
  refine x_ifne (i := 4) (pc' := 10) (tgt := 17) rfl rfl (by decide) (by (repeat' split at *) <;> omega) (fun c1 => ?_) (fun c1 => ?_)
  · skip
    refine x_aload_n (i := 9) (pc' := 18) rfl rfl rfl rfl ?_
    refine m_getf (i := 10) (pc' := 21) rfl rfl flX11_68 (sh0 G) rfl rfl ?_
    refine x_aload_n (i := 11) (pc' := 22) rfl rfl rfl rfl ?_
    refine m_getf (i := 12) (pc' := 25) rfl rfl flX11_10 (sh0 G) rfl rfl ?_
    refine m_getf (i := 13) (pc' := 28) rfl rfl flX11_80 (sh1 G) rfl rfl ?_
    refine m_callV (i := 14) (pc' := 31) (av := [_]) (rest := []) rfl rfl (by decide) lX11_159 (sh73 G) rfl rfl rfl rfl rfl (Nat.le_of_ble_eq_true rfl) (Nat.le_refl _) (Nat.le_refl _) (s_X2_compare hM hn ?_)
    dsimp only [psh]
    refine x_iload_n (i := 15) (pc' := 32) rfl rfl rfl rfl ?_
    refine x_iconst (i := 16) (pc' := 33) rfl rfl ?_
    refine x_icmpne (i := 17) (pc' := 36) (tgt := 44) rfl rfl (by decide) (by (repeat' split at *) <;> omega) (by (repeat' split at *) <;> omega) (fun c2 => ?_) (fun c2 => ?_)
    · skip
      refine x_aload_n (i := 22) (pc' := 45) rfl rfl rfl rfl ?_
      refine m_getf (i := 23) (pc' := 48) rfl rfl flX11_68 (sh0 G) rfl rfl ?_
      refine x_iload_n (i := 24) (pc' := 49) rfl rfl rfl rfl ?_
      refine m_callV (i := 25) (pc' := 52) (av := [_]) (rest := []) rfl rfl (by decide) lX11_169 (sh73 G) rfl rfl rfl rfl rfl (Nat.le_of_ble_eq_true rfl) (Nat.le_refl _) (Nat.le_refl _) (s_X2_isSufficient (cmm_I hM hn).2.1 (by (repeat' split at *) <;> omega) ?_)
      dsimp only [psh]
      refine x_ifeq (i := 26) (pc' := 55) (tgt := 59) rfl rfl (by decide) (by (repeat' split at *) <;> omega) (fun c3 => ?_) (fun c3 => ?_)
      · skip
        refine x_iconst (i := 29) (pc' := 60) rfl rfl ?_
        exact m_ireturn (i := 30) rfl rfl (by (repeat' split at hQ) <;> (repeat' split at *) <;> first | (exfalso; omega; done) | (rw [show bp (suf (cmm m) a) = 1 by omega] at hQ; exact hQ) | (rw [show bp (suf (cmm m) a) = 0 by omega] at hQ; exact hQ) | exact hQ)
      · skip
        refine x_iconst (i := 27) (pc' := 56) rfl rfl ?_
        refine x_goto (i := 28) (pc' := 60) rfl (by decide) ?_
        exact m_ireturn (i := 30) rfl rfl (by (repeat' split at hQ) <;> (repeat' split at *) <;> first | (exfalso; omega; done) | (rw [show bp (suf (cmm m) a) = 1 by omega] at hQ; exact hQ) | (rw [show bp (suf (cmm m) a) = 0 by omega] at hQ; exact hQ) | exact hQ)
    · skip
      refine x_aload_n (i := 18) (pc' := 37) rfl rfl rfl rfl ?_
      refine m_getf (i := 19) (pc' := 40) rfl rfl flX11_68 (sh0 G) rfl rfl ?_
      refine m_callV (i := 20) (pc' := 43) (av := []) (rest := []) rfl rfl (by decide) lX11_166 (sh73 G) rfl rfl rfl rfl rfl (Nat.le_of_ble_eq_true rfl) (Nat.le_refl _) (Nat.le_refl _) (s_X2_leastSufficient (cmm_I hM hn).2.1 ?_)
      dsimp only [psh]
      exact m_ireturn (i := 21) rfl rfl (by (repeat' split at hQ) <;> (repeat' split at *) <;> first | (exfalso; omega; done) | (rw [show bp (suf (cmm m) a) = 1 by omega] at hQ; exact hQ) | (rw [show bp (suf (cmm m) a) = 0 by omega] at hQ; exact hQ) | exact hQ)
  · skip
    refine x_aload_n (i := 5) (pc' := 11) rfl rfl rfl rfl ?_
    refine x_bipush (i := 6) (pc' := 13) rfl rfl (by decide) ?_
    refine m_callV (i := 7) (pc' := 16) (av := [_]) (rest := []) rfl rfl (by decide) lX11_116 (sh0 G) rfl rfl rfl rfl rfl (Nat.le_of_ble_eq_true rfl) (Nat.le_refl _) (Nat.le_refl _) (s_X11_counted her (by omega) ?_)
    dsimp only [psh]
    exact m_ireturn (i := 8) rfl rfl (by (repeat' split at hQ) <;> (repeat' split at *) <;> first | (exfalso; omega; done) | (rw [show bp (suf (cmm m) a) = 1 by omega] at hQ; exact hQ) | (rw [show bp (suf (cmm m) a) = 0 by omega] at hQ; exact hQ) | exact hQ)
