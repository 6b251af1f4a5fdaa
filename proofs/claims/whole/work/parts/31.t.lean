def spn (m : Mem) (g a : Int) : Int := if (yp m g).1 = -1 ∨ 2 ≤ a then (yp m g).1 else ds m ((yp m g).1 / 16) ((yp m g).1 % 16)
theorem s_X11_span {G : GG} {m : Mem} {Q : Option Value → Mem → Prop} {a : Int} (h : GI m) (ra : rg a) (hQ : Q (some (.int (J (if 0 ≤ a ∧ a ≤ 3 then spn m (if a % 2 = 0 then 1 else 0) a else -2)))) (if 0 ≤ a ∧ a ≤ 3 then m else ctm m (-2))) : CM G 4 mX11_span [.ref (G.2.2.2 0), .int (J (a))] m Q := by
  refine CM.of dkX11_span (Or.inl rfl) [some _, some _, none, none] rfl (Nat.le_of_ble_eq_true rfl) ?_
  obtain ⟨hM, ⟨hn, hs, hv, hst, hw, hwd, hpo⟩, hx, htx, htr, her⟩ := h
  have hn0 := hn.1; have hn1 := hn.2
  have e0 := s_X11_isWithin (G := G) (m := m) (Q := Q) (a := a) (b := 0) (c := 3) (by omega) (by omega) (by omega)
  clear e0
  by_cases hc : 0 ≤ a ∧ a ≤ 3
  · rw [if_pos hc, if_pos hc] at hQ
    rcases (by omega : a % 2 = 0 ∨ a % 2 = 1) with h2 | h2
    · rw [if_pos h2] at hQ
      have hyp := yp_I m hn 1
      have hyb : ((yp m 1).1 = -1 ∨ (0 ≤ (yp m 1).1 ∧ 0 ≤ (yp m 1).1 / 16 ∧ (yp m 1).1 / 16 < m 2 2 ∧ 0 ≤ (yp m 1).1 % 16 ∧ (yp m 1).1 % 16 < m 2 2 ∧ (yp m 1).1 < 300)) := (by rcases hyp with h | ⟨j, k, hj, hk, he⟩ <;> omega)
      refine x_iload_n (i := 0) (pc' := 1) rfl rfl rfl rfl ?_
      refine x_iconst (i := 1) (pc' := 2) rfl rfl ?_
      refine x_iconst (i := 2) (pc' := 3) rfl rfl ?_
      refine m_callS (i := 3) (pc' := 6) (av := [_, _, _]) (rest := []) rfl rfl (by decide) lX11_112 rfl rfl (Nat.le_of_ble_eq_true rfl) (Nat.le_refl _) (Nat.le_refl _) (s_X11_isWithin (by omega) (by omega) (by omega) ?_)
      dsimp only [psh]
      refine x_ifne (i := 4) (pc' := 9) (tgt := 16) rfl rfl (by decide) (by (repeat' split at *) <;> omega) (fun c1 => ?_) (fun c1 => by exfalso; (repeat' split at *) <;> omega)
      refine x_iload_n (i := 9) (pc' := 17) rfl rfl rfl rfl ?_
      refine x_iconst (i := 10) (pc' := 18) rfl rfl ?_
      refine x_irem (i := 11) (pc' := 19) rfl rfl (by (repeat' split at *) <;> omega) (by (repeat' split at *) <;> omega) (by (repeat' split at *) <;> omega) (by (repeat' split at *) <;> omega) ?_
      refine x_ifne (i := 12) (pc' := 22) (tgt := 26) rfl rfl (by decide) (by (repeat' split at *) <;> omega) (fun c2 => by exfalso; omega) (fun c2 => ?_)
      refine x_iconst (i := 13) (pc' := 23) rfl rfl ?_
      refine x_goto (i := 14) (pc' := 27) rfl (by decide) ?_
      refine x_istore_n (L' := [some _, some _, some _, none]) (i := 16) (pc' := 28) rfl rfl rfl rfl (by decide) rfl ?_
      refine x_aload_n (i := 17) (pc' := 29) rfl rfl rfl rfl ?_
      refine m_getf (i := 18) (pc' := 32) rfl rfl flX11_10 (sh0 G) rfl rfl ?_
      refine m_getf (i := 19) (pc' := 35) rfl rfl flX11_80 (sh1 G) rfl rfl ?_
      refine x_iload_n (i := 20) (pc' := 36) rfl rfl rfl rfl ?_
      refine m_callV (i := 21) (pc' := 39) (av := [_]) (rest := []) rfl rfl (by decide) lX11_172 (sh2 G) rfl rfl rfl rfl rfl (Nat.le_of_ble_eq_true rfl) (Nat.le_refl _) (Nat.le_refl _) (s_X3_extremePair hM hn hv hw (by omega) ?_)
      dsimp only [psh]
      refine x_istore_n (L' := [some _, some _, some _, some _]) (i := 22) (pc' := 40) rfl rfl rfl rfl (by decide) rfl ?_
      refine x_iload_n (i := 23) (pc' := 41) rfl rfl rfl rfl ?_
      refine x_iconst (i := 24) (pc' := 42) rfl rfl ?_
      refine x_icmpeq (i := 25) (pc' := 45) (tgt := 50) rfl rfl (by decide) (by (repeat' split at *) <;> omega) (by (repeat' split at *) <;> omega) (fun c3 => ?_) (fun c3 => ?_)
      · skip
        refine x_iload_n (i := 29) (pc' := 51) rfl rfl rfl rfl ?_
        exact m_ireturn (i := 30) rfl rfl (by unfold spn at hQ; first | (rw [if_pos (by omega)] at hQ; exact hQ) | (rw [if_neg (by omega)] at hQ; exact hQ))
      · skip
        refine x_iload_n (i := 26) (pc' := 46) rfl rfl rfl rfl ?_
        refine x_iconst (i := 27) (pc' := 47) rfl rfl ?_
        refine x_icmplt (i := 28) (pc' := 50) (tgt := 52) rfl rfl (by decide) (by (repeat' split at *) <;> omega) (by (repeat' split at *) <;> omega) (fun c4 => ?_) (fun c4 => ?_)
        · skip
          refine x_aload_n (i := 31) (pc' := 53) rfl rfl rfl rfl ?_
          refine m_getf (i := 32) (pc' := 56) rfl rfl flX11_10 (sh0 G) rfl rfl ?_
          refine m_getf (i := 33) (pc' := 59) rfl rfl flX11_80 (sh1 G) rfl rfl ?_
          refine x_iload_n (i := 34) (pc' := 60) rfl rfl rfl rfl ?_
          refine x_bipush (i := 35) (pc' := 62) rfl rfl (by decide) ?_
          refine x_idiv (i := 36) (pc' := 63) rfl rfl (by (repeat' split at *) <;> omega) (by (repeat' split at *) <;> omega) (by (repeat' split at *) <;> omega) (by (repeat' split at *) <;> omega) ?_
          refine x_iload_n (i := 37) (pc' := 64) rfl rfl rfl rfl ?_
          refine x_bipush (i := 38) (pc' := 66) rfl rfl (by decide) ?_
          refine x_irem (i := 39) (pc' := 67) rfl rfl (by (repeat' split at *) <;> omega) (by (repeat' split at *) <;> omega) (by (repeat' split at *) <;> omega) (by (repeat' split at *) <;> omega) ?_
          refine m_callV (i := 40) (pc' := 70) (av := [_, _]) (rest := []) rfl rfl (by decide) lX11_122 (sh2 G) rfl rfl rfl rfl rfl (Nat.le_of_ble_eq_true rfl) (Nat.le_refl _) (Nat.le_refl _) (s_X3_distance (by omega) (by omega) (hv _ (by omega) (by omega)) (hv _ (by omega) (by omega)) ?_)
          dsimp only [psh]
          exact m_ireturn (i := 41) rfl rfl (by unfold spn at hQ; first | (rw [if_pos (by omega)] at hQ; exact hQ) | (rw [if_neg (by omega)] at hQ; exact hQ))
        · skip
          refine x_iload_n (i := 29) (pc' := 51) rfl rfl rfl rfl ?_
          exact m_ireturn (i := 30) rfl rfl (by unfold spn at hQ; first | (rw [if_pos (by omega)] at hQ; exact hQ) | (rw [if_neg (by omega)] at hQ; exact hQ))
    · rw [if_neg (by omega)] at hQ
      have hyp := yp_I m hn 0
      have hyb : ((yp m 0).1 = -1 ∨ (0 ≤ (yp m 0).1 ∧ 0 ≤ (yp m 0).1 / 16 ∧ (yp m 0).1 / 16 < m 2 2 ∧ 0 ≤ (yp m 0).1 % 16 ∧ (yp m 0).1 % 16 < m 2 2 ∧ (yp m 0).1 < 300)) := (by rcases hyp with h | ⟨j, k, hj, hk, he⟩ <;> omega)
      refine x_iload_n (i := 0) (pc' := 1) rfl rfl rfl rfl ?_
      refine x_iconst (i := 1) (pc' := 2) rfl rfl ?_
      refine x_iconst (i := 2) (pc' := 3) rfl rfl ?_
      refine m_callS (i := 3) (pc' := 6) (av := [_, _, _]) (rest := []) rfl rfl (by decide) lX11_112 rfl rfl (Nat.le_of_ble_eq_true rfl) (Nat.le_refl _) (Nat.le_refl _) (s_X11_isWithin (by omega) (by omega) (by omega) ?_)
      dsimp only [psh]
      refine x_ifne (i := 4) (pc' := 9) (tgt := 16) rfl rfl (by decide) (by (repeat' split at *) <;> omega) (fun c1 => ?_) (fun c1 => by exfalso; (repeat' split at *) <;> omega)
      refine x_iload_n (i := 9) (pc' := 17) rfl rfl rfl rfl ?_
      refine x_iconst (i := 10) (pc' := 18) rfl rfl ?_
      refine x_irem (i := 11) (pc' := 19) rfl rfl (by (repeat' split at *) <;> omega) (by (repeat' split at *) <;> omega) (by (repeat' split at *) <;> omega) (by (repeat' split at *) <;> omega) ?_
      refine x_ifne (i := 12) (pc' := 22) (tgt := 26) rfl rfl (by decide) (by (repeat' split at *) <;> omega) (fun c2 => ?_) (fun c2 => by exfalso; omega)
      refine x_iconst (i := 15) (pc' := 27) rfl rfl ?_
      refine x_istore_n (L' := [some _, some _, some _, none]) (i := 16) (pc' := 28) rfl rfl rfl rfl (by decide) rfl ?_
      refine x_aload_n (i := 17) (pc' := 29) rfl rfl rfl rfl ?_
      refine m_getf (i := 18) (pc' := 32) rfl rfl flX11_10 (sh0 G) rfl rfl ?_
      refine m_getf (i := 19) (pc' := 35) rfl rfl flX11_80 (sh1 G) rfl rfl ?_
      refine x_iload_n (i := 20) (pc' := 36) rfl rfl rfl rfl ?_
      refine m_callV (i := 21) (pc' := 39) (av := [_]) (rest := []) rfl rfl (by decide) lX11_172 (sh2 G) rfl rfl rfl rfl rfl (Nat.le_of_ble_eq_true rfl) (Nat.le_refl _) (Nat.le_refl _) (s_X3_extremePair hM hn hv hw (by omega) ?_)
      dsimp only [psh]
      refine x_istore_n (L' := [some _, some _, some _, some _]) (i := 22) (pc' := 40) rfl rfl rfl rfl (by decide) rfl ?_
      refine x_iload_n (i := 23) (pc' := 41) rfl rfl rfl rfl ?_
      refine x_iconst (i := 24) (pc' := 42) rfl rfl ?_
      refine x_icmpeq (i := 25) (pc' := 45) (tgt := 50) rfl rfl (by decide) (by (repeat' split at *) <;> omega) (by (repeat' split at *) <;> omega) (fun c3 => ?_) (fun c3 => ?_)
      · skip
        refine x_iload_n (i := 29) (pc' := 51) rfl rfl rfl rfl ?_
        exact m_ireturn (i := 30) rfl rfl (by unfold spn at hQ; first | (rw [if_pos (by omega)] at hQ; exact hQ) | (rw [if_neg (by omega)] at hQ; exact hQ))
      · skip
        refine x_iload_n (i := 26) (pc' := 46) rfl rfl rfl rfl ?_
        refine x_iconst (i := 27) (pc' := 47) rfl rfl ?_
        refine x_icmplt (i := 28) (pc' := 50) (tgt := 52) rfl rfl (by decide) (by (repeat' split at *) <;> omega) (by (repeat' split at *) <;> omega) (fun c4 => ?_) (fun c4 => ?_)
        · skip
          refine x_aload_n (i := 31) (pc' := 53) rfl rfl rfl rfl ?_
          refine m_getf (i := 32) (pc' := 56) rfl rfl flX11_10 (sh0 G) rfl rfl ?_
          refine m_getf (i := 33) (pc' := 59) rfl rfl flX11_80 (sh1 G) rfl rfl ?_
          refine x_iload_n (i := 34) (pc' := 60) rfl rfl rfl rfl ?_
          refine x_bipush (i := 35) (pc' := 62) rfl rfl (by decide) ?_
          refine x_idiv (i := 36) (pc' := 63) rfl rfl (by (repeat' split at *) <;> omega) (by (repeat' split at *) <;> omega) (by (repeat' split at *) <;> omega) (by (repeat' split at *) <;> omega) ?_
          refine x_iload_n (i := 37) (pc' := 64) rfl rfl rfl rfl ?_
          refine x_bipush (i := 38) (pc' := 66) rfl rfl (by decide) ?_
          refine x_irem (i := 39) (pc' := 67) rfl rfl (by (repeat' split at *) <;> omega) (by (repeat' split at *) <;> omega) (by (repeat' split at *) <;> omega) (by (repeat' split at *) <;> omega) ?_
          refine m_callV (i := 40) (pc' := 70) (av := [_, _]) (rest := []) rfl rfl (by decide) lX11_122 (sh2 G) rfl rfl rfl rfl rfl (Nat.le_of_ble_eq_true rfl) (Nat.le_refl _) (Nat.le_refl _) (s_X3_distance (by omega) (by omega) (hv _ (by omega) (by omega)) (hv _ (by omega) (by omega)) ?_)
          dsimp only [psh]
          exact m_ireturn (i := 41) rfl rfl (by unfold spn at hQ; first | (rw [if_pos (by omega)] at hQ; exact hQ) | (rw [if_neg (by omega)] at hQ; exact hQ))
        · skip
          refine x_iload_n (i := 29) (pc' := 51) rfl rfl rfl rfl ?_
          exact m_ireturn (i := 30) rfl rfl (by unfold spn at hQ; first | (rw [if_pos (by omega)] at hQ; exact hQ) | (rw [if_neg (by omega)] at hQ; exact hQ))
  · rw [if_neg hc, if_neg hc] at hQ
    refine x_iload_n (i := 0) (pc' := 1) rfl rfl rfl rfl ?_
    refine x_iconst (i := 1) (pc' := 2) rfl rfl ?_
    refine x_iconst (i := 2) (pc' := 3) rfl rfl ?_
    refine m_callS (i := 3) (pc' := 6) (av := [_, _, _]) (rest := []) rfl rfl (by decide) lX11_112 rfl rfl (Nat.le_of_ble_eq_true rfl) (Nat.le_refl _) (Nat.le_refl _) (s_X11_isWithin (by omega) (by omega) (by omega) ?_)
    dsimp only [psh]
    refine x_ifne (i := 4) (pc' := 9) (tgt := 16) rfl rfl (by decide) (by (repeat' split at *) <;> omega) (fun c1 => by exfalso; (repeat' split at *) <;> omega) (fun c1 => ?_)
    refine x_aload_n (i := 5) (pc' := 10) rfl rfl rfl rfl ?_
    refine x_bipush (i := 6) (pc' := 12) rfl rfl (by decide) ?_
    refine m_callV (i := 7) (pc' := 15) (av := [_]) (rest := []) rfl rfl (by decide) lX11_116 (sh0 G) rfl rfl rfl rfl rfl (Nat.le_of_ble_eq_true rfl) (Nat.le_refl _) (Nat.le_refl _) (s_X11_counted her (by omega) ?_)
    dsimp only [psh]
    exact m_ireturn (i := 8) rfl rfl (hQ)
theorem s_X11_wordOf {G : GG} {m : Mem} {Q : Option Value → Mem → Prop} {a b : Int} (h : GI m) (ra : rg a) (rb : rg b) (hQ : Q (some (.int (J (if (0 ≤ a ∧ a < m 5 1) ∧ (0 ≤ b ∧ b ≤ 6) then (wpr (ipm m 16) a b) else -2)))) (if (0 ≤ a ∧ a < m 5 1) ∧ (0 ≤ b ∧ b ≤ 6) then (ipm m 16) else ctm m (-2))) : CM G 5 mX11_wordOf [.ref (G.2.2.2 0), .int (J (a)), .int (J (b))] m Q := by
  refine CM.of dkX11_wordOf (Or.inl rfl) [some _, some _, some _] rfl (Nat.le_of_ble_eq_true rfl) ?_
  obtain ⟨hM, ⟨hn, hs, hv, hst, hw, hwd, hpo⟩, hx, htx, htr, her⟩ := h
  have hn0 := hn.1; have hn1 := hn.2; have hs0 := hs.1; have hs1 := hs.2
  obtain ⟨i1, i2⟩ := ipm_I hM hs (w := 16) (by omega)
  have i5 := congrFun i1.2.2.1 1
  refine x_aload_n (i := 0) (pc' := 1) rfl rfl rfl rfl ?_
  refine m_getf (i := 1) (pc' := 4) rfl rfl flX11_10 (sh0 G) rfl rfl ?_
  refine m_getf (i := 2) (pc' := 7) rfl rfl flX11_179 (sh1 G) rfl rfl ?_
  refine x_iload_n (i := 3) (pc' := 8) rfl rfl rfl rfl ?_
  refine m_callV (i := 4) (pc' := 11) (av := [_]) (rest := []) rfl rfl (by decide) lX11_194 (sh5 G) rfl rfl rfl rfl rfl (Nat.le_of_ble_eq_true rfl) (Nat.le_refl _) (Nat.le_refl _) (s_X8_holds hs ra ?_)
  dsimp only [psh]
  refine x_ifeq (i := 5) (pc' := 14) (tgt := 24) rfl rfl (by decide) (by (repeat' split at *) <;> omega) (fun c1 => ?_) (fun c1 => ?_)
  · skip
    refine x_aload_n (i := 11) (pc' := 25) rfl rfl rfl rfl ?_
    refine x_bipush (i := 12) (pc' := 27) rfl rfl (by decide) ?_
    refine m_callV (i := 13) (pc' := 30) (av := [_]) (rest := []) rfl rfl (by decide) lX11_116 (sh0 G) rfl rfl rfl rfl rfl (Nat.le_of_ble_eq_true rfl) (Nat.le_refl _) (Nat.le_refl _) (s_X11_counted her (by omega) ?_)
    dsimp only [psh]
    exact m_ireturn (i := 14) rfl rfl (by (repeat' split at hQ) <;> (repeat' split at *) <;> first | exact hQ | (exfalso; omega))
  · skip
    refine x_iload_n (i := 6) (pc' := 15) rfl rfl rfl rfl ?_
    refine x_iconst (i := 7) (pc' := 16) rfl rfl ?_
    refine x_bipush (i := 8) (pc' := 18) rfl rfl (by decide) ?_
    refine m_callS (i := 9) (pc' := 21) (av := [_, _, _]) (rest := []) rfl rfl (by decide) lX11_112 rfl rfl (Nat.le_of_ble_eq_true rfl) (Nat.le_refl _) (Nat.le_refl _) (s_X11_isWithin (by omega) (by omega) (by omega) ?_)
    dsimp only [psh]
    refine x_ifne (i := 10) (pc' := 24) (tgt := 31) rfl rfl (by decide) (by (repeat' split at *) <;> omega) (fun c2 => ?_) (fun c2 => ?_)
    · skip
      refine x_aload_n (i := 15) (pc' := 32) rfl rfl rfl rfl ?_
      refine m_getf (i := 16) (pc' := 35) rfl rfl flX11_33 (sh0 G) rfl rfl ?_
      refine x_aload_n (i := 17) (pc' := 36) rfl rfl rfl rfl ?_
      refine m_getf (i := 18) (pc' := 39) rfl rfl flX11_10 (sh0 G) rfl rfl ?_
      refine x_bipush (i := 19) (pc' := 41) rfl rfl (by decide) ?_
      refine m_callV (i := 20) (pc' := 44) (av := [_, _]) (rest := []) rfl rfl (by decide) lX11_195 (sh57 G) rfl rfl rfl rfl rfl (Nat.le_of_ble_eq_true rfl) (Nat.le_refl _) (Nat.le_refl _) (s_X4_interpret hM hs (hwd.wds hn) (by omega) ?_)
      dsimp only [psh]
      refine x_aload_n (i := 21) (pc' := 45) rfl rfl rfl rfl ?_
      refine x_iload_n (i := 22) (pc' := 46) rfl rfl rfl rfl ?_
      refine x_iload_n (i := 23) (pc' := 47) rfl rfl rfl rfl ?_
      refine m_callV (i := 24) (pc' := 50) (av := [_, _]) (rest := []) rfl rfl (by decide) lX11_199 (sh0 G) rfl rfl rfl rfl rfl (Nat.le_of_ble_eq_true rfl) (Nat.le_refl _) (Nat.le_refl _) (s_X11_wordProperty i2 (i1.sn hs) (by (repeat' split at *) <;> omega) (by (repeat' split at *) <;> omega) ?_)
      dsimp only [psh]
      exact m_ireturn (i := 25) rfl rfl (by (repeat' split at hQ) <;> (repeat' split at *) <;> first | exact hQ | (exfalso; omega))
    · skip
      refine x_aload_n (i := 11) (pc' := 25) rfl rfl rfl rfl ?_
      refine x_bipush (i := 12) (pc' := 27) rfl rfl (by decide) ?_
      refine m_callV (i := 13) (pc' := 30) (av := [_]) (rest := []) rfl rfl (by decide) lX11_116 (sh0 G) rfl rfl rfl rfl rfl (Nat.le_of_ble_eq_true rfl) (Nat.le_refl _) (Nat.le_refl _) (s_X11_counted her (by omega) ?_)
      dsimp only [psh]
      exact m_ireturn (i := 14) rfl rfl (by (repeat' split at hQ) <;> (repeat' split at *) <;> first | exact hQ | (exfalso; omega))
theorem s_X11_at {G : GG} {m : Mem} {Q : Option Value → Mem → Prop} {a b : Int} (h : GI m) (ra : rg a) (rb : rg b) (hQ : Q (some (.int (J (if (0 ≤ a ∧ a ≤ 5) ∧ (0 ≤ b ∧ b ≤ 16) then (tha (ipm m b) a) else -2)))) (if (0 ≤ a ∧ a ≤ 5) ∧ (0 ≤ b ∧ b ≤ 16) then (ipm m b) else ctm m (-2))) : CM G 5 mX11_at [.ref (G.2.2.2 0), .int (J (a)), .int (J (b))] m Q := by
  refine CM.of dkX11_at (Or.inl rfl) [some _, some _, some _] rfl (Nat.le_of_ble_eq_true rfl) ?_
  obtain ⟨hM, ⟨hn, hs, hv, hst, hw, hwd, hpo⟩, hx, htx, htr, her⟩ := h
  have hn0 := hn.1; have hn1 := hn.2; have hs0 := hs.1; have hs1 := hs.2
  refine x_iload_n (i := 0) (pc' := 1) rfl rfl rfl rfl ?_
  refine m_callS (i := 1) (pc' := 4) (av := [_]) (rest := []) rfl rfl (by decide) lX11_202 rfl rfl (Nat.le_of_ble_eq_true rfl) (Nat.le_refl _) (Nat.le_refl _) (s_X11_isSpot (by omega) ?_)
  dsimp only [psh]
  refine x_ifeq (i := 2) (pc' := 7) (tgt := 17) rfl rfl (by decide) (by (repeat' split at *) <;> omega) (fun c1 => ?_) (fun c1 => ?_)
  · skip
    refine x_aload_n (i := 8) (pc' := 18) rfl rfl rfl rfl ?_
    refine x_bipush (i := 9) (pc' := 20) rfl rfl (by decide) ?_
    refine m_callV (i := 10) (pc' := 23) (av := [_]) (rest := []) rfl rfl (by decide) lX11_116 (sh0 G) rfl rfl rfl rfl rfl (Nat.le_of_ble_eq_true rfl) (Nat.le_refl _) (Nat.le_refl _) (s_X11_counted her (by omega) ?_)
    dsimp only [psh]
    exact m_ireturn (i := 11) rfl rfl (by (repeat' split at hQ) <;> (repeat' split at *) <;> first | exact hQ | (exfalso; omega))
  · skip
    refine x_iload_n (i := 3) (pc' := 8) rfl rfl rfl rfl ?_
    refine x_iconst (i := 4) (pc' := 9) rfl rfl ?_
    refine x_bipush (i := 5) (pc' := 11) rfl rfl (by decide) ?_
    refine m_callS (i := 6) (pc' := 14) (av := [_, _, _]) (rest := []) rfl rfl (by decide) lX11_112 rfl rfl (Nat.le_of_ble_eq_true rfl) (Nat.le_refl _) (Nat.le_refl _) (s_X11_isWithin (by omega) (by omega) (by omega) ?_)
    dsimp only [psh]
    refine x_ifne (i := 7) (pc' := 17) (tgt := 24) rfl rfl (by decide) (by (repeat' split at *) <;> omega) (fun c2 => ?_) (fun c2 => ?_)
    · skip
      refine x_aload_n (i := 12) (pc' := 25) rfl rfl rfl rfl ?_
      refine m_getf (i := 13) (pc' := 28) rfl rfl flX11_33 (sh0 G) rfl rfl ?_
      refine x_aload_n (i := 14) (pc' := 29) rfl rfl rfl rfl ?_
      refine m_getf (i := 15) (pc' := 32) rfl rfl flX11_10 (sh0 G) rfl rfl ?_
      refine x_iload_n (i := 16) (pc' := 33) rfl rfl rfl rfl ?_
      refine m_callV (i := 17) (pc' := 36) (av := [_, _]) (rest := []) rfl rfl (by decide) lX11_195 (sh57 G) rfl rfl rfl rfl rfl (Nat.le_of_ble_eq_true rfl) (Nat.le_refl _) (Nat.le_refl _) (s_X4_interpret hM hs (hwd.wds hn) (by (repeat' split at *) <;> omega) ?_)
      dsimp only [psh]
      refine x_aload_n (i := 18) (pc' := 37) rfl rfl rfl rfl ?_
      refine m_getf (i := 19) (pc' := 40) rfl rfl flX11_33 (sh0 G) rfl rfl ?_
      refine x_iload_n (i := 20) (pc' := 41) rfl rfl rfl rfl ?_
      refine m_callV (i := 21) (pc' := 44) (av := [_]) (rest := []) rfl rfl (by decide) lX11_205 (sh57 G) rfl rfl rfl rfl rfl (Nat.le_of_ble_eq_true rfl) (Nat.le_refl _) (Nat.le_refl _) (s_X4_thingAt (ipm_I hM hs (by (repeat' split at *) <;> omega)).2 ra ?_)
      dsimp only [psh]
      exact m_ireturn (i := 22) rfl rfl (by (repeat' split at hQ) <;> (repeat' split at *) <;> first | exact hQ | (exfalso; omega))
    · skip
      refine x_aload_n (i := 8) (pc' := 18) rfl rfl rfl rfl ?_
      refine x_bipush (i := 9) (pc' := 20) rfl rfl (by decide) ?_
      refine m_callV (i := 10) (pc' := 23) (av := [_]) (rest := []) rfl rfl (by decide) lX11_116 (sh0 G) rfl rfl rfl rfl rfl (Nat.le_of_ble_eq_true rfl) (Nat.le_refl _) (Nat.le_refl _) (s_X11_counted her (by omega) ?_)
      dsimp only [psh]
      exact m_ireturn (i := 11) rfl rfl (by (repeat' split at hQ) <;> (repeat' split at *) <;> first | exact hQ | (exfalso; omega))
theorem s_X11_all {G : GG} {m : Mem} {Q : Option Value → Mem → Prop} {a : Int} (h : GI m) (ra : rg a) (hQ : Q (some (.int (J (if 0 ≤ a ∧ a ≤ 6 then (spr (exm m) a) else -2)))) (if 0 ≤ a ∧ a ≤ 6 then (exm m) else ctm m (-2))) : CM G 6 mX11_all [.ref (G.2.2.2 0), .int (J (a))] m Q := by
  refine CM.of dkX11_all (Or.inl rfl) [some _, some _] rfl (Nat.le_of_ble_eq_true rfl) ?_
  obtain ⟨hM, ⟨hn, hs, hv, hst, hw, hwd, hpo⟩, hx, htx, htr, her⟩ := h
  have hn0 := hn.1; have hn1 := hn.2; have hs0 := hs.1; have hs1 := hs.2
  obtain ⟨i1, i2⟩ := ipm_I hM hs (w := 16) (by omega)
  obtain ⟨b1, b2⟩ := ckm_I i2 (i1.sn hs)
  obtain ⟨f1, f2, f3, f4⟩ := fwm_I b2 (b1.sn (i1.sn hs))
  have k5 : ckm (ipm m 16) 5 1 = m 5 1 := (by rw [congrFun b1.2.2.1 1, congrFun i1.2.2.1 1])
  have po2 : POS (exm m) := (by unfold POS exm; rw [fwm_ne _ (by decide) (by decide), ckm_ne _ (by decide), ipm_ne _ _ (by decide)]; exact hpo)
  refine x_iload_n (i := 0) (pc' := 1) rfl rfl rfl rfl ?_
  refine x_iconst (i := 1) (pc' := 2) rfl rfl ?_
  refine x_bipush (i := 2) (pc' := 4) rfl rfl (by decide) ?_
  refine m_callS (i := 3) (pc' := 7) (av := [_, _, _]) (rest := []) rfl rfl (by decide) lX11_112 rfl rfl (Nat.le_of_ble_eq_true rfl) (Nat.le_refl _) (Nat.le_refl _) (s_X11_isWithin (by omega) (by omega) (by omega) ?_)
  dsimp only [psh]
  refine x_ifne (i := 4) (pc' := 10) (tgt := 17) rfl rfl (by decide) (by (repeat' split at *) <;> omega) (fun c1 => ?_) (fun c1 => ?_)
  · skip
    refine x_aload_n (i := 9) (pc' := 18) rfl rfl rfl rfl ?_
    refine m_callV (i := 10) (pc' := 21) (av := []) (rest := []) rfl rfl (by decide) lX11_208 (sh0 G) rfl rfl rfl rfl rfl (Nat.le_of_ble_eq_true rfl) (Nat.le_refl _) (Nat.le_refl _) (s_X11_examineSentence hM hs (hwd.wds hn) ?_)
    dsimp only [psh]
    refine x_aload_n (i := 11) (pc' := 22) rfl rfl rfl rfl ?_
    refine x_iload_n (i := 12) (pc' := 23) rfl rfl rfl rfl ?_
    refine m_callV (i := 13) (pc' := 26) (av := [_]) (rest := []) rfl rfl (by decide) lX11_211 (sh0 G) rfl rfl rfl rfl rfl (Nat.le_of_ble_eq_true rfl) (Nat.le_refl _) (Nat.le_refl _) (s_X11_sentenceProperty (show 0 ≤ exm m 64 1 ∧ exm m 64 1 ≤ 32 by unfold exm; omega) f4 po2 (by (repeat' split at *) <;> omega) ?_)
    dsimp only [psh]
    exact m_ireturn (i := 14) rfl rfl (by (repeat' split at hQ) <;> (repeat' split at *) <;> first | exact hQ | (exfalso; omega))
  · skip
    refine x_aload_n (i := 5) (pc' := 11) rfl rfl rfl rfl ?_
    refine x_bipush (i := 6) (pc' := 13) rfl rfl (by decide) ?_
    refine m_callV (i := 7) (pc' := 16) (av := [_]) (rest := []) rfl rfl (by decide) lX11_116 (sh0 G) rfl rfl rfl rfl rfl (Nat.le_of_ble_eq_true rfl) (Nat.le_refl _) (Nat.le_refl _) (s_X11_counted her (by omega) ?_)
    dsimp only [psh]
    exact m_ireturn (i := 8) rfl rfl (by (repeat' split at hQ) <;> (repeat' split at *) <;> first | exact hQ | (exfalso; omega))
theorem s_X11_lay {G : GG} {m : Mem} {Q : Option Value → Mem → Prop} {a : Int} (h : GI m) (ra : rg a) (hQ : Q (some (.int (J (if 0 ≤ a ∧ a ≤ 5 then (m 7 a) else -2)))) (if 0 ≤ a ∧ a ≤ 5 then (m) else ctm m (-2))) : CM G 3 mX11_lay [.ref (G.2.2.2 0), .int (J (a))] m Q := by
  refine CM.of dkX11_lay (Or.inl rfl) [some _, some _] rfl (Nat.le_of_ble_eq_true rfl) ?_
  obtain ⟨hM, ⟨hn, hs, hv, hst, hw, hwd, hpo⟩, hx, htx, htr, her⟩ := h
  have hn0 := hn.1; have hn1 := hn.2; have hs0 := hs.1; have hs1 := hs.2
  refine x_iload_n (i := 0) (pc' := 1) rfl rfl rfl rfl ?_
  refine m_callS (i := 1) (pc' := 4) (av := [_]) (rest := []) rfl rfl (by decide) lX11_202 rfl rfl (Nat.le_of_ble_eq_true rfl) (Nat.le_refl _) (Nat.le_refl _) (s_X11_isSpot (by omega) ?_)
  dsimp only [psh]
  refine x_ifeq (i := 2) (pc' := 7) (tgt := 18) rfl rfl (by decide) (by (repeat' split at *) <;> omega) (fun c1 => ?_) (fun c1 => ?_)
  · skip
    refine x_aload_n (i := 8) (pc' := 19) rfl rfl rfl rfl ?_
    refine x_bipush (i := 9) (pc' := 21) rfl rfl (by decide) ?_
    refine m_callV (i := 10) (pc' := 24) (av := [_]) (rest := []) rfl rfl (by decide) lX11_116 (sh0 G) rfl rfl rfl rfl rfl (Nat.le_of_ble_eq_true rfl) (Nat.le_refl _) (Nat.le_refl _) (s_X11_counted her (by omega) ?_)
    dsimp only [psh]
    exact m_ireturn (i := 11) rfl rfl (by (repeat' split at hQ) <;> (repeat' split at *) <;> first | exact hQ | (exfalso; omega))
  · skip
    refine x_aload_n (i := 3) (pc' := 8) rfl rfl rfl rfl ?_
    refine m_getf (i := 4) (pc' := 11) rfl rfl flX11_10 (sh0 G) rfl rfl ?_
    refine x_iload_n (i := 5) (pc' := 12) rfl rfl rfl rfl ?_
    refine m_callV (i := 6) (pc' := 15) (av := [_]) (rest := []) rfl rfl (by decide) lX11_217 (sh1 G) rfl rfl rfl rfl rfl (Nat.le_of_ble_eq_true rfl) (Nat.le_refl _) (Nat.le_refl _) (s_X9_position (by (repeat' split at *) <;> omega) ?_)
    dsimp only [psh]
    refine x_goto (i := 7) (pc' := 24) rfl (by decide) ?_
    exact m_ireturn (i := 11) rfl rfl (by (repeat' split at hQ) <;> (repeat' split at *) <;> first | exact hQ | (exfalso; omega))
theorem s_X11_best {G : GG} {m : Mem} {Q : Option Value → Mem → Prop} {a : Int} (h : GI m) (ra : rg a) (hQ : Q (some (.int (J (if -1 ≤ a ∧ a ≤ 5 then (if a = -1 then fbm m 66 3 else fbm m 69 a) else -2)))) (if -1 ≤ a ∧ a ≤ 5 then (fbm m) else ctm m (-2))) : CM G 11 mX11_best [.ref (G.2.2.2 0), .int (J (a))] m Q := by
  refine CM.of dkX11_best (Or.inl rfl) [some _, some _] rfl (Nat.le_of_ble_eq_true rfl) ?_
  obtain ⟨hM, ⟨hn, hs, hv, hst, hw, hwd, hpo⟩, hx, htx, htr, her⟩ := h
  have hn0 := hn.1; have hn1 := hn.2; have hs0 := hs.1; have hs1 := hs.2
  refine x_iload_n (i := 0) (pc' := 1) rfl rfl rfl rfl ?_
  refine x_iconst (i := 1) (pc' := 2) rfl rfl ?_
  refine x_iconst (i := 2) (pc' := 3) rfl rfl ?_
  refine m_callS (i := 3) (pc' := 6) (av := [_, _, _]) (rest := []) rfl rfl (by decide) lX11_112 rfl rfl (Nat.le_of_ble_eq_true rfl) (Nat.le_refl _) (Nat.le_refl _) (s_X11_isWithin (by omega) (by omega) (by omega) ?_)
  dsimp only [psh]
  refine x_ifne (i := 4) (pc' := 9) (tgt := 16) rfl rfl (by decide) (by (repeat' split at *) <;> omega) (fun c1 => ?_) (fun c1 => ?_)
  · skip
    refine x_aload_n (i := 9) (pc' := 17) rfl rfl rfl rfl ?_
    refine m_callV (i := 10) (pc' := 20) (av := []) (rest := []) rfl rfl (by decide) lX11_220 (sh0 G) rfl rfl rfl rfl rfl (Nat.le_of_ble_eq_true rfl) (Nat.le_refl _) (Nat.le_refl _) (s_X11_findBestArrangement hM hs htr ?_)
    dsimp only [psh]
    refine x_iload_n (i := 11) (pc' := 21) rfl rfl rfl rfl ?_
    refine x_iconst (i := 12) (pc' := 22) rfl rfl ?_
    refine x_icmpne (i := 13) (pc' := 25) (tgt := 35) rfl rfl (by decide) (by (repeat' split at *) <;> omega) (by (repeat' split at *) <;> omega) (fun c2 => ?_) (fun c2 => ?_)
    · skip
      refine x_aload_n (i := 18) (pc' := 36) rfl rfl rfl rfl ?_
      refine m_getf (i := 19) (pc' := 39) rfl rfl flX11_54 (sh0 G) rfl rfl ?_
      refine m_getf (i := 20) (pc' := 42) rfl rfl flX11_227 (sh66 G) rfl rfl ?_
      refine x_iload_n (i := 21) (pc' := 43) rfl rfl rfl rfl ?_
      refine m_iald (i := 22) (pc' := 44) rfl rfl (sh69 G) (by decide) ⟨by (repeat' split at *) <;> omega, by (repeat' split at *) <;> omega⟩ ?_
      exact m_ireturn (i := 23) rfl rfl (by (repeat' split at hQ) <;> (repeat' split at *) <;> first | exact hQ | (exfalso; omega))
    · skip
      refine x_aload_n (i := 14) (pc' := 26) rfl rfl rfl rfl ?_
      refine m_getf (i := 15) (pc' := 29) rfl rfl flX11_54 (sh0 G) rfl rfl ?_
      refine m_getf (i := 16) (pc' := 32) rfl rfl flX11_223 (sh66 G) rfl rfl ?_
      refine x_goto (i := 17) (pc' := 44) rfl (by decide) ?_
      exact m_ireturn (i := 23) rfl rfl (by (repeat' split at hQ) <;> (repeat' split at *) <;> first | exact hQ | (exfalso; omega))
  · skip
    refine x_aload_n (i := 5) (pc' := 10) rfl rfl rfl rfl ?_
    refine x_bipush (i := 6) (pc' := 12) rfl rfl (by decide) ?_
    refine m_callV (i := 7) (pc' := 15) (av := [_]) (rest := []) rfl rfl (by decide) lX11_116 (sh0 G) rfl rfl rfl rfl rfl (Nat.le_of_ble_eq_true rfl) (Nat.le_refl _) (Nat.le_refl _) (s_X11_counted her (by omega) ?_)
    dsimp only [psh]
    exact m_ireturn (i := 8) rfl rfl (by (repeat' split at hQ) <;> (repeat' split at *) <;> first | exact hQ | (exfalso; omega))
theorem s_X11_told {G : GG} {m : Mem} {Q : Option Value → Mem → Prop} {a : Int} (h : GI m) (ra : rg a) (hQ : Q (some (.int (J (if 0 ≤ a ∧ a ≤ 10 then (fgr m a) else -2)))) (if 0 ≤ a ∧ a ≤ 10 then (m) else ctm m (-2))) : CM G 3 mX11_told [.ref (G.2.2.2 0), .int (J (a))] m Q := by
  refine CM.of dkX11_told (Or.inl rfl) [some _, some _] rfl (Nat.le_of_ble_eq_true rfl) ?_
  obtain ⟨hM, ⟨hn, hs, hv, hst, hw, hwd, hpo⟩, hx, htx, htr, her⟩ := h
  have hn0 := hn.1; have hn1 := hn.2; have hs0 := hs.1; have hs1 := hs.2
  refine x_iload_n (i := 0) (pc' := 1) rfl rfl rfl rfl ?_
  refine x_iconst (i := 1) (pc' := 2) rfl rfl ?_
  refine x_bipush (i := 2) (pc' := 4) rfl rfl (by decide) ?_
  refine m_callS (i := 3) (pc' := 7) (av := [_, _, _]) (rest := []) rfl rfl (by decide) lX11_112 rfl rfl (Nat.le_of_ble_eq_true rfl) (Nat.le_refl _) (Nat.le_refl _) (s_X11_isWithin (by omega) (by omega) (by omega) ?_)
  dsimp only [psh]
  refine x_ifeq (i := 4) (pc' := 10) (tgt := 18) rfl rfl (by decide) (by (repeat' split at *) <;> omega) (fun c1 => ?_) (fun c1 => ?_)
  · skip
    refine x_aload_n (i := 9) (pc' := 19) rfl rfl rfl rfl ?_
    refine x_bipush (i := 10) (pc' := 21) rfl rfl (by decide) ?_
    refine m_callV (i := 11) (pc' := 24) (av := [_]) (rest := []) rfl rfl (by decide) lX11_116 (sh0 G) rfl rfl rfl rfl rfl (Nat.le_of_ble_eq_true rfl) (Nat.le_refl _) (Nat.le_refl _) (s_X11_counted her (by omega) ?_)
    dsimp only [psh]
    exact m_ireturn (i := 12) rfl rfl (by (repeat' split at hQ) <;> (repeat' split at *) <;> first | exact hQ | (exfalso; omega))
  · skip
    refine x_aload_n (i := 5) (pc' := 11) rfl rfl rfl rfl ?_
    refine x_iload_n (i := 6) (pc' := 12) rfl rfl rfl rfl ?_
    refine m_callV (i := 7) (pc' := 15) (av := [_]) (rest := []) rfl rfl (by decide) lX11_264 (sh0 G) rfl rfl rfl rfl rfl (Nat.le_of_ble_eq_true rfl) (Nat.le_refl _) (Nat.le_refl _) (s_X11_figure (by (repeat' split at *) <;> omega) ?_)
    dsimp only [psh]
    refine x_goto (i := 8) (pc' := 24) rfl (by decide) ?_
    exact m_ireturn (i := 12) rfl rfl (by (repeat' split at hQ) <;> (repeat' split at *) <;> first | exact hQ | (exfalso; omega))
theorem s_X11_type {G : GG} {m : Mem} {Q : Option Value → Mem → Prop} {a : Int} (h : GI m) (ra : rg a) (hQ : Q (some (.int (J (if 0 ≤ a ∧ a ≤ 127 then (if m 52 1 < 120 then m 52 1 + 1 else -4) else -2)))) (ctm (if (0 ≤ a ∧ a ≤ 127) ∧ m 52 1 < 120 then stm (stm m 53 (m 52 1) a) 52 1 (m 52 1 + 1) else m) (if 0 ≤ a ∧ a ≤ 127 then (if m 52 1 < 120 then m 52 1 + 1 else -4) else -2))) : CM G 2 mX11_type [.ref (G.2.2.2 0), .int (J (a))] m Q := by
  refine CM.of dkX11_type (Or.inl rfl) [some _, some _] rfl (Nat.le_of_ble_eq_true rfl) ?_
  obtain ⟨hM, ⟨hn, hs, hv, hst, hw, hwd, hpo⟩, hx, htx, htr, her⟩ := h
  refine x_aload_n (i := 0) (pc' := 1) rfl rfl rfl rfl ?_
  refine x_aload_n (i := 1) (pc' := 2) rfl rfl rfl rfl ?_
  refine m_getf (i := 2) (pc' := 5) rfl rfl flX11_26 (sh0 G) rfl rfl ?_
  refine x_iload_n (i := 3) (pc' := 6) rfl rfl rfl rfl ?_
  refine m_callV (i := 4) (pc' := 9) (av := [_]) (rest := [_]) rfl rfl (by decide) lX11_243 (sh52 G) rfl rfl rfl rfl rfl (Nat.le_of_ble_eq_true rfl) (Nat.le_refl _) (Nat.le_refl _) (s_X7_append hM ra htx ?_)
  dsimp only [psh]
  refine m_callV (i := 5) (pc' := 12) (av := [_]) (rest := []) rfl rfl (by decide) lX11_116 (sh0 G) rfl rfl rfl rfl rfl (Nat.le_of_ble_eq_true rfl) (Nat.le_refl _) (Nat.le_refl _) (s_X11_counted (by split <;> exact her) (by (repeat' split) <;> omega) ?_)
  dsimp only [psh]
  exact m_ireturn (i := 6) rfl rfl (hQ)
theorem s_X11_clear {G : GG} {m : Mem} {Q : Option Value → Mem → Prop}  (hQ : Q (some (.int (J (m 52 1)))) (stm m 52 1 0)) : CM G 1 mX11_clear [.ref (G.2.2.2 0)] m Q := by
  refine CM.of dkX11_clear (Or.inl rfl) [some _] rfl (Nat.le_of_ble_eq_true rfl) ?_
  refine x_aload_n (i := 0) (pc' := 1) rfl rfl rfl rfl ?_
  refine m_getf (i := 1) (pc' := 4) rfl rfl flX11_26 (sh0 G) rfl rfl ?_
  refine m_callV (i := 2) (pc' := 7) (av := []) (rest := []) rfl rfl (by decide) lX11_246 (sh52 G) rfl rfl rfl rfl rfl (Nat.le_of_ble_eq_true rfl) (Nat.le_refl _) (Nat.le_refl _) (s_X7_empty ?_)
  dsimp only [psh]
  exact m_ireturn (i := 3) rfl rfl (hQ)
theorem bkm_ne (m : Mem) {q : Nat} (h : q = 0 ∨ 8 < q) : bkm m q = m q := by
  unfold bkm
  rw [cps_ne _ _ _ (by omega), stm_ne _ _ _ (by omega), stm_ne _ _ _ (by omega)]
theorem s_X11_back {G : GG} {m : Mem} {Q : Option Value → Mem → Prop} (h : GI m) (hQ : Q (some (.int (J (if m 8 2 = 0 then -3 else m 8 2 - 1)))) (if m 8 2 = 0 then ctm m (-3) else bkm m)) : CM G 4 mX11_back [.ref (G.2.2.2 0)] m Q := by
  refine CM.of dkX11_back (Or.inl rfl) [some _] rfl (Nat.le_of_ble_eq_true rfl) ?_
  obtain ⟨hM, ⟨hn, hs, hv, hst, hw, hwd, hpo⟩, hx, htx, htr, her⟩ := h
  have hx1 := hx.2
  have her2 : ER (bkm m) := er_of (bkm_ne m (by decide)) her
  refine x_aload_n (i := 0) (pc' := 1) rfl rfl rfl rfl ?_
  refine x_aload_n (i := 1) (pc' := 2) rfl rfl rfl rfl ?_
  refine m_getf (i := 2) (pc' := 5) rfl rfl flX11_19 (sh0 G) rfl rfl ?_
  refine x_aload_n (i := 3) (pc' := 6) rfl rfl rfl rfl ?_
  refine m_getf (i := 4) (pc' := 9) rfl rfl flX11_10 (sh0 G) rfl rfl ?_
  refine m_callV (i := 5) (pc' := 12) (av := [_]) (rest := [_]) rfl rfl (by decide) lX11_261 (sh8 G) rfl rfl rfl rfl rfl (Nat.le_of_ble_eq_true rfl) (Nat.le_refl _) (Nat.le_refl _) (s_X5_restore hx ?_)
  dsimp only [psh]
  refine m_callV (i := 6) (pc' := 15) (av := [_]) (rest := []) rfl rfl (by decide) lX11_116 (sh0 G) rfl rfl rfl rfl rfl (Nat.le_of_ble_eq_true rfl) (Nat.le_refl _) (Nat.le_refl _) (s_X11_counted (by split <;> first | exact her | exact her2) (by split <;> omega) ?_)
  dsimp only [psh]
  exact m_ireturn (i := 7) rfl rfl (by (repeat' split at hQ) <;> (repeat' split) <;> first | exact hQ | (exfalso; omega) | (rw [ctm_pos (by omega)]; exact hQ))
