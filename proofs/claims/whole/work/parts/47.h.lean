theorem mcp_MR {m : Mem} (h : MR m) (a b : Int) : MR (mcp m a b) := MR_it (fun i x hx => hx.st (hx _ _)) _ _ _ h
theorem md0_MR {m : Mem} (h : MR m) : MR (md0 m) := MR_it (fun i x hx => hx.st (hx _ _)) _ _ _ h
theorem mdm_MR {m : Mem} (h : MR m) (hs : ST m) : MR (mdm m) := by
  have h1 : MR (md1 m) := by
    unfold md1
    split
    · refine (md0_MR h).st ?_
      rw [md0_ne m (by decide)]
      have := hs.1; have := hs.2; omega
    · exact h
  have h2 := md1_st hs
  refine (mcp_MR h1 _ _).st ?_
  rw [mcp_ne _ _ _ (by decide)]
  omega
theorem s_X12_sign {G : GG} {m : Mem} {Q : Option Value → Mem → Prop} {a b c d e : Int} (h : GM m) (ra : rg a) (rb : rg b) (rc : rg c) (rd : rg d) (re : rg e) (hQ : Q (some (.int (J (if cns m a b c d e < 0 then (cns m a b c d e) else (m 77 0))))) (if cns m a b c d e < 0 then (rfm m (cns m a b c d e)) else (adm (mdm m) a b c d e))) : CM G 4 mX12_sign [.ref (G.2.2.2 76), .int (J (a)), .int (J (b)), .int (J (c)), .int (J (d)), .int (J (e))] m Q := by
  refine CM.of dkX12_sign (Or.inl rfl) [some _, some _, some _, some _, some _, some _, none] rfl (Nat.le_of_ble_eq_true rfl) ?_
  obtain ⟨hM, ⟨hn, hc, hv, hst, hw, hwd, hpo⟩, hst5, hle, her⟩ := h
  have hn0 := hn.1; have hn1 := hn.2; have hc0 := hc.1; have hc1 := hc.2
  have hcb : -4 ≤ cns m a b c d e ∧ cns m a b c d e ≤ 0 ∧ ¬ cns m a b c d e = -1 := (by unfold cns; (repeat' split) <;> omega)
  have hcx : cns m a b c d e = 0 → m 77 0 < 16 := (by unfold cns; (repeat' split) <;> omega)
  by_cases hcc : cns m a b c d e < 0
  · rw [if_pos hcc, if_pos hcc] at hQ
    refine x_aload_n (i := 0) (pc' := 1) rfl rfl rfl rfl ?_
    refine x_iload_n (i := 1) (pc' := 2) rfl rfl rfl rfl ?_
    refine x_iload_n (i := 2) (pc' := 3) rfl rfl rfl rfl ?_
    refine x_iload_n (i := 3) (pc' := 4) rfl rfl rfl rfl ?_
    refine x_iload (i := 4) (pc' := 6) rfl rfl rfl ?_
    refine x_iload (i := 5) (pc' := 8) rfl rfl rfl ?_
    refine m_callV (i := 6) (pc' := 11) (av := [_, _, _, _, _]) (rest := []) rfl rfl (by decide) lX12_66 (sh76 G) rfl rfl rfl rfl rfl (Nat.le_of_ble_eq_true rfl) (Nat.le_refl _) (Nat.le_refl _) (s_X12_canSign hM hn ra rb rc rd re ?_)
    dsimp only [psh]
    refine x_istore (L' := [some _, some _, some _, some _, some _, some _, some _]) (i := 7) (pc' := 13) rfl rfl rfl (by decide) rfl ?_
    refine x_iload (i := 8) (pc' := 15) rfl rfl rfl ?_
    refine x_ifge (i := 9) (pc' := 18) (tgt := 25) rfl rfl (by decide) (by (repeat' split at *) <;> omega) (fun c1 => ?_) (fun c1 => ?_)
    · first | (exfalso; (repeat' split at *) <;> omega; done) | skip
      all_goals (
        exfalso; (repeat' split at *) <;> omega
        skip)
    · first | (exfalso; (repeat' split at *) <;> omega; done) | skip
      all_goals (
        refine x_aload_n (i := 10) (pc' := 19) rfl rfl rfl rfl ?_
        refine x_iload (i := 11) (pc' := 21) rfl rfl rfl ?_
        refine m_callV (i := 12) (pc' := 24) (av := [_]) (rest := []) rfl rfl (by decide) lX12_69 (sh76 G) rfl rfl rfl rfl rfl (Nat.le_of_ble_eq_true rfl) (Nat.le_refl _) (Nat.le_refl _) (s_X12_refuses (by (repeat' split at *) <;> omega) ?_)
        dsimp only [psh]
        exact m_ireturn (i := 13) rfl rfl (hQ)
        skip)
  · rw [if_neg hcc, if_neg hcc] at hQ
    refine x_aload_n (i := 0) (pc' := 1) rfl rfl rfl rfl ?_
    refine x_iload_n (i := 1) (pc' := 2) rfl rfl rfl rfl ?_
    refine x_iload_n (i := 2) (pc' := 3) rfl rfl rfl rfl ?_
    refine x_iload_n (i := 3) (pc' := 4) rfl rfl rfl rfl ?_
    refine x_iload (i := 4) (pc' := 6) rfl rfl rfl ?_
    refine x_iload (i := 5) (pc' := 8) rfl rfl rfl ?_
    refine m_callV (i := 6) (pc' := 11) (av := [_, _, _, _, _]) (rest := []) rfl rfl (by decide) lX12_66 (sh76 G) rfl rfl rfl rfl rfl (Nat.le_of_ble_eq_true rfl) (Nat.le_refl _) (Nat.le_refl _) (s_X12_canSign hM hn ra rb rc rd re ?_)
    dsimp only [psh]
    refine x_istore (L' := [some _, some _, some _, some _, some _, some _, some _]) (i := 7) (pc' := 13) rfl rfl rfl (by decide) rfl ?_
    refine x_iload (i := 8) (pc' := 15) rfl rfl rfl ?_
    refine x_ifge (i := 9) (pc' := 18) (tgt := 25) rfl rfl (by decide) (by (repeat' split at *) <;> omega) (fun c1 => ?_) (fun c1 => ?_)
    · first | (exfalso; (repeat' split at *) <;> omega; done) | skip
      all_goals (
        refine x_aload_n (i := 14) (pc' := 26) rfl rfl rfl rfl ?_
        refine m_callV (i := 15) (pc' := 29) (av := []) (rest := []) rfl rfl (by decide) lX12_73 (sh76 G) rfl rfl rfl rfl rfl (Nat.le_of_ble_eq_true rfl) (Nat.le_refl _) (Nat.le_refl _) (s_X12_minds hst5 ?_)
        dsimp only [psh]
        have zlo : ∀ i, i < 140 → mdm m 77 i = m 77 i := fun i hi => mdm_lo hst5 hi
        have zM := mdm_MR hM hst5
        generalize mdm m = y at hQ zlo zM ⊢
        have z0 := zlo 0 (by decide); have z1 := zlo 1 (by decide)
        refine x_aload_n (i := 16) (pc' := 30) rfl rfl rfl rfl ?_
        refine x_iload_n (i := 17) (pc' := 31) rfl rfl rfl rfl ?_
        refine x_iload_n (i := 18) (pc' := 32) rfl rfl rfl rfl ?_
        refine x_iload_n (i := 19) (pc' := 33) rfl rfl rfl rfl ?_
        refine x_iload (i := 20) (pc' := 35) rfl rfl rfl ?_
        refine x_iload (i := 21) (pc' := 37) rfl rfl rfl ?_
        refine m_callV (i := 22) (pc' := 40) (av := [_, _, _, _, _]) (rest := []) rfl rfl (by decide) lX12_76 (sh76 G) rfl rfl rfl rfl rfl (Nat.le_of_ble_eq_true rfl) (Nat.le_refl _) (Nat.le_refl _) (s_X12_adds (by unfold NM; rw [z0]; exact hn) (by omega) ?_)
        dsimp only [psh]
        exact m_ireturn (i := 23) rfl rfl (by rw [z0]; exact hQ)
        skip)
    · first | (exfalso; (repeat' split at *) <;> omega; done) | skip
      all_goals (
        refine x_aload_n (i := 10) (pc' := 19) rfl rfl rfl rfl ?_
        refine x_iload (i := 11) (pc' := 21) rfl rfl rfl ?_
        refine m_callV (i := 12) (pc' := 24) (av := [_]) (rest := []) rfl rfl (by decide) lX12_69 (sh76 G) rfl rfl rfl rfl rfl (Nat.le_of_ble_eq_true rfl) (Nat.le_refl _) (Nat.le_refl _) (s_X12_refuses (by (repeat' split at *) <;> omega) ?_)
        dsimp only [psh]
        exact m_ireturn (i := 13) rfl rfl (by rw [z0]; exact hQ)
        skip)
theorem s_X12_drops {G : GG} {m : Mem} {Q : Option Value → Mem → Prop} {a : Int} (h : GM m) (ra : rg a) (hQ : Q (some (.int (J (if cnd m a < 0 then (cnd m a) else (m 77 0 - 1))))) (if cnd m a < 0 then (rfm m (cnd m a)) else (gos (mdm m) a))) : CM G 3 mX12_drops [.ref (G.2.2.2 76), .int (J (a))] m Q := by
  refine CM.of dkX12_drops (Or.inl rfl) [some _, some _, none] rfl (Nat.le_of_ble_eq_true rfl) ?_
  obtain ⟨hM, ⟨hn, hc, hv, hst, hw, hwd, hpo⟩, hst5, hle, her⟩ := h
  have hn0 := hn.1; have hn1 := hn.2; have hc0 := hc.1; have hc1 := hc.2
  have hcb : -4 ≤ cnd m a ∧ cnd m a ≤ 0 ∧ ¬ cnd m a = -1 := (by unfold cnd; (repeat' split) <;> omega)
  have hcx : cnd m a = 0 → 0 ≤ a ∧ a < m 77 0 := (by unfold cnd; (repeat' split) <;> omega)
  by_cases hcc : cnd m a < 0
  · rw [if_pos hcc, if_pos hcc] at hQ
    refine x_aload_n (i := 0) (pc' := 1) rfl rfl rfl rfl ?_
    refine x_iload_n (i := 1) (pc' := 2) rfl rfl rfl rfl ?_
    refine m_callV (i := 2) (pc' := 5) (av := [_]) (rest := []) rfl rfl (by decide) lX12_87 (sh76 G) rfl rfl rfl rfl rfl (Nat.le_of_ble_eq_true rfl) (Nat.le_refl _) (Nat.le_refl _) (s_X12_canDrop hM hn hc ra ?_)
    dsimp only [psh]
    refine x_istore_n (L' := [some _, some _, some _]) (i := 3) (pc' := 6) rfl rfl rfl rfl (by decide) rfl ?_
    refine x_iload_n (i := 4) (pc' := 7) rfl rfl rfl rfl ?_
    refine x_ifge (i := 5) (pc' := 10) (tgt := 16) rfl rfl (by decide) (by (repeat' split at *) <;> omega) (fun c1 => ?_) (fun c1 => ?_)
    · first | (exfalso; (repeat' split at *) <;> omega; done) | skip
      all_goals (
        exfalso; (repeat' split at *) <;> omega
        skip)
    · first | (exfalso; (repeat' split at *) <;> omega; done) | skip
      all_goals (
        refine x_aload_n (i := 6) (pc' := 11) rfl rfl rfl rfl ?_
        refine x_iload_n (i := 7) (pc' := 12) rfl rfl rfl rfl ?_
        refine m_callV (i := 8) (pc' := 15) (av := [_]) (rest := []) rfl rfl (by decide) lX12_69 (sh76 G) rfl rfl rfl rfl rfl (Nat.le_of_ble_eq_true rfl) (Nat.le_refl _) (Nat.le_refl _) (s_X12_refuses (by (repeat' split at *) <;> omega) ?_)
        dsimp only [psh]
        exact m_ireturn (i := 9) rfl rfl (hQ)
        skip)
  · rw [if_neg hcc, if_neg hcc] at hQ
    refine x_aload_n (i := 0) (pc' := 1) rfl rfl rfl rfl ?_
    refine x_iload_n (i := 1) (pc' := 2) rfl rfl rfl rfl ?_
    refine m_callV (i := 2) (pc' := 5) (av := [_]) (rest := []) rfl rfl (by decide) lX12_87 (sh76 G) rfl rfl rfl rfl rfl (Nat.le_of_ble_eq_true rfl) (Nat.le_refl _) (Nat.le_refl _) (s_X12_canDrop hM hn hc ra ?_)
    dsimp only [psh]
    refine x_istore_n (L' := [some _, some _, some _]) (i := 3) (pc' := 6) rfl rfl rfl rfl (by decide) rfl ?_
    refine x_iload_n (i := 4) (pc' := 7) rfl rfl rfl rfl ?_
    refine x_ifge (i := 5) (pc' := 10) (tgt := 16) rfl rfl (by decide) (by (repeat' split at *) <;> omega) (fun c1 => ?_) (fun c1 => ?_)
    · first | (exfalso; (repeat' split at *) <;> omega; done) | skip
      all_goals (
        refine x_aload_n (i := 10) (pc' := 17) rfl rfl rfl rfl ?_
        refine m_callV (i := 11) (pc' := 20) (av := []) (rest := []) rfl rfl (by decide) lX12_73 (sh76 G) rfl rfl rfl rfl rfl (Nat.le_of_ble_eq_true rfl) (Nat.le_refl _) (Nat.le_refl _) (s_X12_minds hst5 ?_)
        dsimp only [psh]
        have zlo : ∀ i, i < 140 → mdm m 77 i = m 77 i := fun i hi => mdm_lo hst5 hi
        have zM := mdm_MR hM hst5
        generalize mdm m = y at hQ zlo zM ⊢
        have z0 := zlo 0 (by decide); have z1 := zlo 1 (by decide)
        have hca := hcx (by omega)
        refine x_aload_n (i := 12) (pc' := 21) rfl rfl rfl rfl ?_
        refine x_iload_n (i := 13) (pc' := 22) rfl rfl rfl rfl ?_
        refine m_callV (i := 14) (pc' := 25) (av := [_]) (rest := []) rfl rfl (by decide) lX12_90 (sh76 G) rfl rfl rfl rfl rfl (Nat.le_of_ble_eq_true rfl) (Nat.le_refl _) (Nat.le_refl _) (s_X12_goes zM (by unfold NM; rw [z0]; exact hn) (by unfold CMd; rw [z1]; exact hc) (by omega) (fun i h1 h2 => by (rw [zlo _ (by omega)]; have h9 := (hwd i h1 (by omega)).1.1; rw [Int.add_zero] at h9; exact h9)) ?_)
        dsimp only [psh]
        exact m_ireturn (i := 15) rfl rfl (by rw [z0]; exact hQ)
        skip)
    · first | (exfalso; (repeat' split at *) <;> omega; done) | skip
      all_goals (
        refine x_aload_n (i := 6) (pc' := 11) rfl rfl rfl rfl ?_
        refine x_iload_n (i := 7) (pc' := 12) rfl rfl rfl rfl ?_
        refine m_callV (i := 8) (pc' := 15) (av := [_]) (rest := []) rfl rfl (by decide) lX12_69 (sh76 G) rfl rfl rfl rfl rfl (Nat.le_of_ble_eq_true rfl) (Nat.le_refl _) (Nat.le_refl _) (s_X12_refuses (by (repeat' split at *) <;> omega) ?_)
        dsimp only [psh]
        exact m_ireturn (i := 9) rfl rfl (by rw [z0]; exact hQ)
        skip)
theorem s_X12_weight {G : GG} {m : Mem} {Q : Option Value → Mem → Prop} {a b : Int} (h : GM m) (ra : rg a) (rb : rg b) (hQ : Q (some (.int (J (if ¬ ((0 ≤ a ∧ a ≤ 3) ∧ (0 ≤ b ∧ b ≤ 5)) then (-2) else (m 77 (130 + a)))))) (if ¬ ((0 ≤ a ∧ a ≤ 3) ∧ (0 ≤ b ∧ b ≤ 5)) then (rfm m (-2)) else (stm (mdm m) 77 (130 + a) b))) : CM G 2 mX12_weight [.ref (G.2.2.2 76), .int (J (a)), .int (J (b))] m Q := by
  refine CM.of dkX12_weight (Or.inl rfl) [some _, some _, some _, none] rfl (Nat.le_of_ble_eq_true rfl) ?_
  obtain ⟨hM, ⟨hn, hc, hv, hst, hw, hwd, hpo⟩, hst5, hle, her⟩ := h
  have hn0 := hn.1; have hn1 := hn.2; have hc0 := hc.1; have hc1 := hc.2
  by_cases hcc : ¬ ((0 ≤ a ∧ a ≤ 3) ∧ (0 ≤ b ∧ b ≤ 5))
  · rw [if_pos hcc, if_pos hcc] at hQ
    refine x_iload_n (i := 0) (pc' := 1) rfl rfl rfl rfl ?_
    refine x_iload_n (i := 1) (pc' := 2) rfl rfl rfl rfl ?_
    refine m_callS (i := 2) (pc' := 5) (av := [_, _]) (rest := []) rfl rfl (by decide) lX12_95 rfl rfl (Nat.le_of_ble_eq_true rfl) (Nat.le_refl _) (Nat.le_refl _) (s_X12_isWeight ra rb ?_)
    dsimp only [psh]
    refine x_ifne (i := 3) (pc' := 8) (tgt := 15) rfl rfl (by decide) (by (repeat' split at *) <;> omega) (fun c1 => ?_) (fun c1 => ?_)
    · first | (exfalso; (repeat' split at *) <;> omega; done) | skip
      all_goals (
        exfalso; (repeat' split at *) <;> omega
        skip)
    · first | (exfalso; (repeat' split at *) <;> omega; done) | skip
      all_goals (
        refine x_aload_n (i := 4) (pc' := 9) rfl rfl rfl rfl ?_
        refine x_bipush (i := 5) (pc' := 11) rfl rfl (by decide) ?_
        refine m_callV (i := 6) (pc' := 14) (av := [_]) (rest := []) rfl rfl (by decide) lX12_69 (sh76 G) rfl rfl rfl rfl rfl (Nat.le_of_ble_eq_true rfl) (Nat.le_refl _) (Nat.le_refl _) (s_X12_refuses (by (repeat' split at *) <;> omega) ?_)
        dsimp only [psh]
        exact m_ireturn (i := 7) rfl rfl (hQ)
        skip)
  · rw [if_neg hcc, if_neg hcc] at hQ
    refine x_iload_n (i := 0) (pc' := 1) rfl rfl rfl rfl ?_
    refine x_iload_n (i := 1) (pc' := 2) rfl rfl rfl rfl ?_
    refine m_callS (i := 2) (pc' := 5) (av := [_, _]) (rest := []) rfl rfl (by decide) lX12_95 rfl rfl (Nat.le_of_ble_eq_true rfl) (Nat.le_refl _) (Nat.le_refl _) (s_X12_isWeight ra rb ?_)
    dsimp only [psh]
    refine x_ifne (i := 3) (pc' := 8) (tgt := 15) rfl rfl (by decide) (by (repeat' split at *) <;> omega) (fun c1 => ?_) (fun c1 => ?_)
    · first | (exfalso; (repeat' split at *) <;> omega; done) | skip
      all_goals (
        refine x_aload_n (i := 8) (pc' := 16) rfl rfl rfl rfl ?_
        refine m_callV (i := 9) (pc' := 19) (av := []) (rest := []) rfl rfl (by decide) lX12_73 (sh76 G) rfl rfl rfl rfl rfl (Nat.le_of_ble_eq_true rfl) (Nat.le_refl _) (Nat.le_refl _) (s_X12_minds hst5 ?_)
        dsimp only [psh]
        have zlo : ∀ i, i < 140 → mdm m 77 i = m 77 i := fun i hi => mdm_lo hst5 hi
        have zM := mdm_MR hM hst5
        generalize mdm m = y at hQ zlo zM ⊢
        have z0 := zlo 0 (by decide); have z1 := zlo 1 (by decide)
        refine x_aload_n (i := 10) (pc' := 20) rfl rfl rfl rfl ?_
        refine m_getf (i := 11) (pc' := 23) rfl rfl flX12_7 (sh76 G) rfl rfl ?_
        refine x_sipush (i := 12) (pc' := 26) rfl rfl (by decide) ?_
        refine x_iload_n (i := 13) (pc' := 27) rfl rfl rfl rfl ?_
        refine x_iadd (i := 14) (pc' := 28) rfl rfl ?_
        refine m_iald (i := 15) (pc' := 29) rfl rfl (sh77 G) (by decide) ⟨by (repeat' split at *) <;> omega, by (repeat' split at *) <;> omega⟩ ?_
        refine x_istore_n (L' := [some _, some _, some _, some _]) (i := 16) (pc' := 30) rfl rfl rfl rfl (by decide) rfl ?_
        refine x_aload_n (i := 17) (pc' := 31) rfl rfl rfl rfl ?_
        refine m_getf (i := 18) (pc' := 34) rfl rfl flX12_7 (sh76 G) rfl rfl ?_
        refine x_sipush (i := 19) (pc' := 37) rfl rfl (by decide) ?_
        refine x_iload_n (i := 20) (pc' := 38) rfl rfl rfl rfl ?_
        refine x_iadd (i := 21) (pc' := 39) rfl rfl ?_
        refine x_iload_n (i := 22) (pc' := 40) rfl rfl rfl rfl ?_
        refine m_iast (i := 23) (pc' := 41) rfl rfl (sh77 G) (by decide) ⟨by (repeat' split at *) <;> omega, by (repeat' split at *) <;> omega⟩ ?_
        refine x_iload_n (i := 24) (pc' := 42) rfl rfl rfl rfl ?_
        exact m_ireturn (i := 25) rfl rfl (by rw [zlo _ (by omega)]; exact hQ)
        skip)
    · first | (exfalso; (repeat' split at *) <;> omega; done) | skip
      all_goals (
        refine x_aload_n (i := 4) (pc' := 9) rfl rfl rfl rfl ?_
        refine x_bipush (i := 5) (pc' := 11) rfl rfl (by decide) ?_
        refine m_callV (i := 6) (pc' := 14) (av := [_]) (rest := []) rfl rfl (by decide) lX12_69 (sh76 G) rfl rfl rfl rfl rfl (Nat.le_of_ble_eq_true rfl) (Nat.le_refl _) (Nat.le_refl _) (s_X12_refuses (by (repeat' split at *) <;> omega) ?_)
        dsimp only [psh]
        exact m_ireturn (i := 7) rfl rfl (by rw [zlo _ (by omega)]; exact hQ)
        skip)
theorem s_X12_word {G : GG} {m : Mem} {Q : Option Value → Mem → Prop} {a b c : Int} (h : GM m) (ra : rg a) (rb : rg b) (rc : rg c) (hQ : Q (some (.int (J (if csy m a b c < 0 then (csy m a b c) else (m 77 1))))) (if csy m a b c < 0 then (rfm m (csy m a b c)) else (sym (mdm m) a b c))) : CM G 3 mX12_word [.ref (G.2.2.2 76), .int (J (a)), .int (J (b)), .int (J (c))] m Q := by
  refine CM.of dkX12_word (Or.inl rfl) [some _, some _, some _, some _, none] rfl (Nat.le_of_ble_eq_true rfl) ?_
  obtain ⟨hM, ⟨hn, hc, hv, hst, hw, hwd, hpo⟩, hst5, hle, her⟩ := h
  have hn0 := hn.1; have hn1 := hn.2; have hc0 := hc.1; have hc1 := hc.2
  have hcb : -4 ≤ csy m a b c ∧ csy m a b c ≤ 0 ∧ ¬ csy m a b c = -1 ∧ ¬ csy m a b c = -3 := (by unfold csy; (repeat' split) <;> omega)
  have hcx : csy m a b c = 0 → m 77 1 < 16 := (by unfold csy; (repeat' split) <;> omega)
  by_cases hcc : csy m a b c < 0
  · rw [if_pos hcc, if_pos hcc] at hQ
    refine x_aload_n (i := 0) (pc' := 1) rfl rfl rfl rfl ?_
    refine x_iload_n (i := 1) (pc' := 2) rfl rfl rfl rfl ?_
    refine x_iload_n (i := 2) (pc' := 3) rfl rfl rfl rfl ?_
    refine x_iload_n (i := 3) (pc' := 4) rfl rfl rfl rfl ?_
    refine m_callV (i := 4) (pc' := 7) (av := [_, _, _]) (rest := []) rfl rfl (by decide) lX12_174 (sh76 G) rfl rfl rfl rfl rfl (Nat.le_of_ble_eq_true rfl) (Nat.le_refl _) (Nat.le_refl _) (s_X12_canSay hn hc ra rb rc ?_)
    dsimp only [psh]
    refine x_istore (L' := [some _, some _, some _, some _, some _]) (i := 5) (pc' := 9) rfl rfl rfl (by decide) rfl ?_
    refine x_iload (i := 6) (pc' := 11) rfl rfl rfl ?_
    refine x_ifge (i := 7) (pc' := 14) (tgt := 21) rfl rfl (by decide) (by (repeat' split at *) <;> omega) (fun c1 => ?_) (fun c1 => ?_)
    · first | (exfalso; (repeat' split at *) <;> omega; done) | skip
      all_goals (
        exfalso; (repeat' split at *) <;> omega
        skip)
    · first | (exfalso; (repeat' split at *) <;> omega; done) | skip
      all_goals (
        refine x_aload_n (i := 8) (pc' := 15) rfl rfl rfl rfl ?_
        refine x_iload (i := 9) (pc' := 17) rfl rfl rfl ?_
        refine m_callV (i := 10) (pc' := 20) (av := [_]) (rest := []) rfl rfl (by decide) lX12_69 (sh76 G) rfl rfl rfl rfl rfl (Nat.le_of_ble_eq_true rfl) (Nat.le_refl _) (Nat.le_refl _) (s_X12_refuses (by (repeat' split at *) <;> omega) ?_)
        dsimp only [psh]
        exact m_ireturn (i := 11) rfl rfl (hQ)
        skip)
  · rw [if_neg hcc, if_neg hcc] at hQ
    refine x_aload_n (i := 0) (pc' := 1) rfl rfl rfl rfl ?_
    refine x_iload_n (i := 1) (pc' := 2) rfl rfl rfl rfl ?_
    refine x_iload_n (i := 2) (pc' := 3) rfl rfl rfl rfl ?_
    refine x_iload_n (i := 3) (pc' := 4) rfl rfl rfl rfl ?_
    refine m_callV (i := 4) (pc' := 7) (av := [_, _, _]) (rest := []) rfl rfl (by decide) lX12_174 (sh76 G) rfl rfl rfl rfl rfl (Nat.le_of_ble_eq_true rfl) (Nat.le_refl _) (Nat.le_refl _) (s_X12_canSay hn hc ra rb rc ?_)
    dsimp only [psh]
    refine x_istore (L' := [some _, some _, some _, some _, some _]) (i := 5) (pc' := 9) rfl rfl rfl (by decide) rfl ?_
    refine x_iload (i := 6) (pc' := 11) rfl rfl rfl ?_
    refine x_ifge (i := 7) (pc' := 14) (tgt := 21) rfl rfl (by decide) (by (repeat' split at *) <;> omega) (fun c1 => ?_) (fun c1 => ?_)
    · first | (exfalso; (repeat' split at *) <;> omega; done) | skip
      all_goals (
        refine x_aload_n (i := 12) (pc' := 22) rfl rfl rfl rfl ?_
        refine m_callV (i := 13) (pc' := 25) (av := []) (rest := []) rfl rfl (by decide) lX12_73 (sh76 G) rfl rfl rfl rfl rfl (Nat.le_of_ble_eq_true rfl) (Nat.le_refl _) (Nat.le_refl _) (s_X12_minds hst5 ?_)
        dsimp only [psh]
        have zlo : ∀ i, i < 140 → mdm m 77 i = m 77 i := fun i hi => mdm_lo hst5 hi
        have zM := mdm_MR hM hst5
        generalize mdm m = y at hQ zlo zM ⊢
        have z0 := zlo 0 (by decide); have z1 := zlo 1 (by decide)
        refine x_aload_n (i := 14) (pc' := 26) rfl rfl rfl rfl ?_
        refine x_iload_n (i := 15) (pc' := 27) rfl rfl rfl rfl ?_
        refine x_iload_n (i := 16) (pc' := 28) rfl rfl rfl rfl ?_
        refine x_iload_n (i := 17) (pc' := 29) rfl rfl rfl rfl ?_
        refine m_callV (i := 18) (pc' := 32) (av := [_, _, _]) (rest := []) rfl rfl (by decide) lX12_177 (sh76 G) rfl rfl rfl rfl rfl (Nat.le_of_ble_eq_true rfl) (Nat.le_refl _) (Nat.le_refl _) (s_X12_says (by unfold CMd; rw [z1]; exact hc) (by omega) ?_)
        dsimp only [psh]
        exact m_ireturn (i := 19) rfl rfl (by rw [z1]; exact hQ)
        skip)
    · first | (exfalso; (repeat' split at *) <;> omega; done) | skip
      all_goals (
        refine x_aload_n (i := 8) (pc' := 15) rfl rfl rfl rfl ?_
        refine x_iload (i := 9) (pc' := 17) rfl rfl rfl ?_
        refine m_callV (i := 10) (pc' := 20) (av := [_]) (rest := []) rfl rfl (by decide) lX12_69 (sh76 G) rfl rfl rfl rfl rfl (Nat.le_of_ble_eq_true rfl) (Nat.le_refl _) (Nat.le_refl _) (s_X12_refuses (by (repeat' split at *) <;> omega) ?_)
        dsimp only [psh]
        exact m_ireturn (i := 11) rfl rfl (by rw [z1]; exact hQ)
        skip)
theorem s_X12_clears {G : GG} {m : Mem} {Q : Option Value → Mem → Prop} (h : GM m) (hQ : Q (some (.int (J (m 77 1)))) (stm (mdm m) 77 1 0)) : CM G 2 mX12_clears [.ref (G.2.2.2 76)] m Q := by
  refine CM.of dkX12_clears (Or.inl rfl) [some _] rfl (Nat.le_of_ble_eq_true rfl) ?_
  obtain ⟨hM, ⟨hn, hc, hv, hst, hw, hwd, hpo⟩, hst5, hle, her⟩ := h
  have hn0 := hn.1; have hn1 := hn.2; have hc0 := hc.1; have hc1 := hc.2
  refine x_aload_n (i := 0) (pc' := 1) rfl rfl rfl rfl ?_
  refine m_callV (i := 1) (pc' := 4) (av := []) (rest := []) rfl rfl (by decide) lX12_73 (sh76 G) rfl rfl rfl rfl rfl (Nat.le_of_ble_eq_true rfl) (Nat.le_refl _) (Nat.le_refl _) (s_X12_minds hst5 ?_)
  dsimp only [psh]
  have zlo : ∀ i, i < 140 → mdm m 77 i = m 77 i := fun i hi => mdm_lo hst5 hi
  have zM := mdm_MR hM hst5
  generalize mdm m = y at hQ zlo zM ⊢
  have z0 := zlo 0 (by decide); have z1 := zlo 1 (by decide)
  refine x_aload_n (i := 2) (pc' := 5) rfl rfl rfl rfl ?_
  refine m_callV (i := 3) (pc' := 8) (av := []) (rest := []) rfl rfl (by decide) lX12_186 (sh76 G) rfl rfl rfl rfl rfl (Nat.le_of_ble_eq_true rfl) (Nat.le_refl _) (Nat.le_refl _) (s_X12_clearsAll ?_)
  dsimp only [psh]
  exact m_ireturn (i := 4) rfl rfl (by rw [z1]; exact hQ)
def bck (m : Mem) : Mem := mcp (stm m 76 1 (m 76 1 - 1)) (140 + 140 * (m 76 1 - 1)) 0
theorem s_X12_back {G : GG} {m : Mem} {Q : Option Value → Mem → Prop} (h : GM m) (hQ : Q (some (.int (J (if m 76 1 = 0 then -3 else m 76 1 - 1)))) (if m 76 1 = 0 then rfm m (-3) else bck m)) : CM G 1 mX12_back [.ref (G.2.2.2 76)] m Q := by
  refine CM.of dkX12_back (Or.inl rfl) [some _] rfl (Nat.le_of_ble_eq_true rfl) ?_
  obtain ⟨hM, ⟨hn, hc, hv, hst, hw, hwd, hpo⟩, hst5, hle, her⟩ := h
  have hn0 := hn.1; have hn1 := hn.2; have hc0 := hc.1; have hc1 := hc.2
  have s0 := hst5.1; have s1 := hst5.2
  have e1 : stm m 76 1 (m 76 1 - 1) 76 1 = m 76 1 - 1 := stm_eq _ _ _ _
  have e2 : bck m 76 1 = m 76 1 - 1 := (by unfold bck; rw [mcp_ne _ _ _ (by decide), stm_eq])
  refine x_aload_n (i := 0) (pc' := 1) rfl rfl rfl rfl ?_
  refine m_getf (i := 1) (pc' := 4) rfl rfl flX12_34 (sh76 G) rfl rfl ?_
  refine x_ifne (i := 2) (pc' := 7) (tgt := 14) rfl rfl (by decide) ⟨by omega, by omega⟩ (fun c1 => ?_) (fun c1 => ?_)
  · skip
    refine x_aload_n (i := 7) (pc' := 15) rfl rfl rfl rfl ?_
    refine x_dup (i := 8) (pc' := 16) rfl rfl rfl ?_
    refine m_getf (i := 9) (pc' := 19) rfl rfl flX12_34 (sh76 G) rfl rfl ?_
    refine x_iconst (i := 10) (pc' := 20) rfl rfl ?_
    refine x_isub (i := 11) (pc' := 21) rfl rfl ?_
    refine m_putf (kz := 1) (i := 12) (pc' := 24) rfl rfl flX12_34 (sh76 G) (fun _ => rfl) rfl (Nat.le_of_ble_eq_true rfl) rfl rfl ?_
    refine x_aload_n (i := 13) (pc' := 25) rfl rfl rfl rfl ?_
    refine x_sipush (i := 14) (pc' := 28) rfl rfl (by decide) ?_
    refine x_sipush (i := 15) (pc' := 31) rfl rfl (by decide) ?_
    refine x_aload_n (i := 16) (pc' := 32) rfl rfl rfl rfl ?_
    refine m_getf (i := 17) (pc' := 35) rfl rfl flX12_34 (sh76 G) rfl rfl ?_
    rw [e1]
    refine x_imul (i := 18) (pc' := 36) rfl rfl ?_
    refine x_iadd (i := 19) (pc' := 37) rfl rfl ?_
    refine x_iconst (i := 20) (pc' := 38) rfl rfl ?_
    refine m_callV (i := 21) (pc' := 41) (av := [_, _]) (rest := []) rfl rfl (by decide) lX12_38 (sh76 G) rfl rfl rfl rfl rfl (Nat.le_of_ble_eq_true rfl) (Nat.le_refl _) (Nat.le_refl _) (s_X12_copy (by omega) (by omega) ?_)
    dsimp only [psh]
    rw [if_neg (by assumption), if_neg (by assumption)] at hQ
    have hb9 : mcp (stm m 76 1 (m 76 1 - 1)) (140 + 140 * (m 76 1 - 1)) 0 = bck m := rfl
    rw [hb9]
    generalize bck m = y at hQ e2 ⊢
    refine x_aload_n (i := 22) (pc' := 42) rfl rfl rfl rfl ?_
    refine m_getf (i := 23) (pc' := 45) rfl rfl flX12_34 (sh76 G) rfl rfl ?_
    rw [e2]
    exact m_ireturn (i := 24) rfl rfl (by first | exact hQ | (rw [if_pos (by assumption), if_pos (by assumption)] at hQ; exact hQ))
  · skip
    refine x_aload_n (i := 3) (pc' := 8) rfl rfl rfl rfl ?_
    refine x_bipush (i := 4) (pc' := 10) rfl rfl (by decide) ?_
    refine m_callV (i := 5) (pc' := 13) (av := [_]) (rest := []) rfl rfl (by decide) lX12_69 (sh76 G) rfl rfl rfl rfl rfl (Nat.le_of_ble_eq_true rfl) (Nat.le_refl _) (Nat.le_refl _) (s_X12_refuses (by omega) ?_)
    dsimp only [psh]
    exact m_ireturn (i := 6) rfl rfl (by first | exact hQ | (rw [if_pos (by assumption), if_pos (by assumption)] at hQ; exact hQ))
def sat (m : Mem) (v : Int) : Nat → Int → Int
  | 0, s => s
  | k + 1, s => if m 77 (134 + s) = v then s else sat m v k (s + 1)
theorem sat_le (m : Mem) (v : Int) : ∀ (k : Nat) (s : Int), s ≤ sat m v k s ∧ sat m v k s ≤ s + k
  | 0, s => by unfold sat; omega
  | k + 1, s => by
    unfold sat
    split
    · omega
    · have := sat_le m v k (s + 1); omega
theorem sa_loop {G : GG} {m : Mem} {Q : Option Value → Mem → Prop} {v : Int} (hM : MR m) (hv : rg v) : ∀ (k : Nat) (s : Int), s + k = 5 → 0 ≤ s → (∃ t, s ≤ t ∧ t ≤ 5 ∧ m 77 (134 + t) = v) → Q (some (.int (J (sat m v k s)))) m → BW G 0 mX12_spotAt Q 2 [some (.ref (G.2.2.2 76)), some (.int (J (v))), some (.int (J (s)))] [] m := by
  intro k
  induction k with
  | zero =>
    intro s hk h0 hex hQ
    obtain ⟨t, h1, h2, h3⟩ := hex
    have hst : t = s := (by omega)
    subst hst
    refine x_aload_n (i := 2) (pc' := 3) rfl rfl rfl rfl ?_
    refine m_getf (i := 3) (pc' := 6) rfl rfl flX12_7 (sh76 G) rfl rfl ?_
    refine x_sipush (i := 4) (pc' := 9) rfl rfl (by decide) ?_
    refine x_iload_n (i := 5) (pc' := 10) rfl rfl rfl rfl ?_
    refine x_iadd (i := 6) (pc' := 11) rfl rfl ?_
    refine m_iald (i := 7) (pc' := 12) rfl rfl (sh77 G) (by decide) ⟨by omega, by omega⟩ ?_
    refine x_iload_n (i := 8) (pc' := 13) rfl rfl rfl rfl ?_
    refine x_icmpeq (i := 9) (pc' := 16) (tgt := 22) rfl rfl (by decide) (by first | omega | exact hM _ _) (by first | omega | exact hM _ _) (fun c1 => ?_) (fun c1 => by exact absurd h3 c1)
    refine x_iload_n (i := 12) (pc' := 23) rfl rfl rfl rfl ?_
    exact m_ireturn (i := 13) rfl rfl (hQ)
  | succ k ih =>
    intro s hk h0 hex hQ
    unfold sat at hQ
    refine x_aload_n (i := 2) (pc' := 3) rfl rfl rfl rfl ?_
    refine m_getf (i := 3) (pc' := 6) rfl rfl flX12_7 (sh76 G) rfl rfl ?_
    refine x_sipush (i := 4) (pc' := 9) rfl rfl (by decide) ?_
    refine x_iload_n (i := 5) (pc' := 10) rfl rfl rfl rfl ?_
    refine x_iadd (i := 6) (pc' := 11) rfl rfl ?_
    refine m_iald (i := 7) (pc' := 12) rfl rfl (sh77 G) (by decide) ⟨by omega, by omega⟩ ?_
    refine x_iload_n (i := 8) (pc' := 13) rfl rfl rfl rfl ?_
    refine x_icmpeq (i := 9) (pc' := 16) (tgt := 22) rfl rfl (by decide) (by first | omega | exact hM _ _) (by first | omega | exact hM _ _) (fun c1 => ?_) (fun c1 => ?_)
    · skip
      refine x_iload_n (i := 12) (pc' := 23) rfl rfl rfl rfl ?_
      exact m_ireturn (i := 13) rfl rfl (by rw [if_pos (by assumption)] at hQ; exact hQ)
    · skip
      refine x_iinc (L' := [some _, some _, some _]) (i := 10) (pc' := 19) rfl rfl rfl rfl (by decide) rfl ?_
      refine x_goto (i := 11) (pc' := 2) rfl (by decide) ?_
      rw [if_neg (by assumption)] at hQ
      obtain ⟨t, h1, h2, h3⟩ := hex
      have hts : ¬ t = s := fun e => by (subst e; contradiction)
      exact ih (s + 1) (by omega) (by omega) ⟨t, by omega, h2, h3⟩ hQ
theorem s_X12_spotAt {G : GG} {m : Mem} {Q : Option Value → Mem → Prop} {v : Int} (hM : MR m) (hv : rg v) (hex : ∃ t, 0 ≤ t ∧ t ≤ 5 ∧ m 77 (134 + t) = v) (hQ : Q (some (.int (J (sat m v 5 0)))) m) : CM G 0 mX12_spotAt [.ref (G.2.2.2 76), .int (J (v))] m Q := by
  refine CM.of dkX12_spotAt (Or.inl rfl) [some _, some _, none] rfl (Nat.le_of_ble_eq_true rfl) ?_
  refine x_iconst (i := 0) (pc' := 1) rfl rfl ?_
  refine x_istore_n (L' := [some _, some _, some _]) (i := 1) (pc' := 2) rfl rfl rfl rfl (by decide) rfl ?_
  exact sa_loop hM hv 5 0 (by omega) (by omega) hex hQ
def lym (m : Mem) (a v : Int) : Mem := stm (stm m 77 (134 + sat m v 5 0) (m 77 (134 + a))) 77 (134 + a) v
theorem s_X12_lays {G : GG} {m : Mem} {Q : Option Value → Mem → Prop} {a b : Int} (h : GM m) (ra : rg a) (rb : rg b) (hex : 0 ≤ b → b ≤ 5 → ∃ t, 0 ≤ t ∧ t ≤ 5 ∧ m 77 (134 + t) = b) (hQ : Q (some (.int (J (if (0 ≤ a ∧ a ≤ 5) ∧ (0 ≤ b ∧ b ≤ 5) then m 77 (134 + a) else -2)))) (if (0 ≤ a ∧ a ≤ 5) ∧ (0 ≤ b ∧ b ≤ 5) then lym (mdm m) a b else rfm m (-2))) : CM G 2 mX12_lays [.ref (G.2.2.2 76), .int (J (a)), .int (J (b))] m Q := by
  refine CM.of dkX12_lays (Or.inl rfl) [some _, some _, some _, none] rfl (Nat.le_of_ble_eq_true rfl) ?_
  obtain ⟨hM, ⟨hn, hc, hv, hst, hw, hwd, hpo⟩, hst5, hle, her⟩ := h
  have hn0 := hn.1; have hn1 := hn.2; have hc0 := hc.1; have hc1 := hc.2
  by_cases hcc : (0 ≤ a ∧ a ≤ 5) ∧ (0 ≤ b ∧ b ≤ 5)
  · rw [if_pos hcc, if_pos hcc] at hQ
    obtain ⟨t, t0, t1, t2⟩ := hex hcc.2.1 hcc.2.2
    refine x_iload_n (i := 0) (pc' := 1) rfl rfl rfl rfl ?_
    refine m_callS (i := 1) (pc' := 4) (av := [_]) (rest := []) rfl rfl (by decide) lX12_209 rfl rfl (Nat.le_of_ble_eq_true rfl) (Nat.le_refl _) (Nat.le_refl _) (s_X12_isSpot (by assumption) ?_)
    dsimp only [psh]
    refine x_ifeq (i := 2) (pc' := 7) (tgt := 14) rfl rfl (by decide) (by (repeat' split at *) <;> omega) (fun c1 => by exfalso; (repeat' split at *) <;> omega) (fun c1 => ?_)
    refine x_iload_n (i := 3) (pc' := 8) rfl rfl rfl rfl ?_
    refine m_callS (i := 4) (pc' := 11) (av := [_]) (rest := []) rfl rfl (by decide) lX12_209 rfl rfl (Nat.le_of_ble_eq_true rfl) (Nat.le_refl _) (Nat.le_refl _) (s_X12_isSpot (by assumption) ?_)
    dsimp only [psh]
    refine x_ifne (i := 5) (pc' := 14) (tgt := 21) rfl rfl (by decide) (by (repeat' split at *) <;> omega) (fun c2 => ?_) (fun c2 => by exfalso; (repeat' split at *) <;> omega)
    refine x_aload_n (i := 10) (pc' := 22) rfl rfl rfl rfl ?_
    refine m_callV (i := 11) (pc' := 25) (av := []) (rest := []) rfl rfl (by decide) lX12_73 (sh76 G) rfl rfl rfl rfl rfl (Nat.le_of_ble_eq_true rfl) (Nat.le_refl _) (Nat.le_refl _) (s_X12_minds hst5 ?_)
    dsimp only [psh]
    have zlo : ∀ i, i < 140 → mdm m 77 i = m 77 i := fun i hi => mdm_lo hst5 hi
    have zM := mdm_MR hM hst5
    generalize mdm m = y at hQ zlo zM ⊢
    have z0 := zlo 0 (by decide); have z1 := zlo 1 (by decide)
    refine x_aload_n (i := 12) (pc' := 26) rfl rfl rfl rfl ?_
    refine m_getf (i := 13) (pc' := 29) rfl rfl flX12_7 (sh76 G) rfl rfl ?_
    refine x_sipush (i := 14) (pc' := 32) rfl rfl (by decide) ?_
    refine x_iload_n (i := 15) (pc' := 33) rfl rfl rfl rfl ?_
    refine x_iadd (i := 16) (pc' := 34) rfl rfl ?_
    refine m_iald (i := 17) (pc' := 35) rfl rfl (sh77 G) (by decide) ⟨by (repeat' split at *) <;> omega, by (repeat' split at *) <;> omega⟩ ?_
    refine x_istore_n (L' := [some _, some _, some _, some _]) (i := 18) (pc' := 36) rfl rfl rfl rfl (by decide) rfl ?_
    refine x_aload_n (i := 19) (pc' := 37) rfl rfl rfl rfl ?_
    refine m_getf (i := 20) (pc' := 40) rfl rfl flX12_7 (sh76 G) rfl rfl ?_
    refine x_sipush (i := 21) (pc' := 43) rfl rfl (by decide) ?_
    refine x_aload_n (i := 22) (pc' := 44) rfl rfl rfl rfl ?_
    refine x_iload_n (i := 23) (pc' := 45) rfl rfl rfl rfl ?_
    refine m_callV (i := 24) (pc' := 48) (av := [_]) (rest := [_, _]) rfl rfl (by decide) lX12_239 (sh76 G) rfl rfl rfl rfl rfl (Nat.le_of_ble_eq_true rfl) (Nat.le_refl _) (Nat.le_refl _) (s_X12_spotAt zM rb ⟨t, t0, t1, (zlo _ (by omega)).trans t2⟩ ?_)
    dsimp only [psh]
    have hsl := sat_le y b 5 0
    refine x_iadd (i := 25) (pc' := 49) rfl rfl ?_
    refine x_iload_n (i := 26) (pc' := 50) rfl rfl rfl rfl ?_
    refine m_iast (i := 27) (pc' := 51) rfl rfl (sh77 G) (by decide) ⟨by (repeat' split at *) <;> omega, by (repeat' split at *) <;> omega⟩ ?_
    refine x_aload_n (i := 28) (pc' := 52) rfl rfl rfl rfl ?_
    refine m_getf (i := 29) (pc' := 55) rfl rfl flX12_7 (sh76 G) rfl rfl ?_
    refine x_sipush (i := 30) (pc' := 58) rfl rfl (by decide) ?_
    refine x_iload_n (i := 31) (pc' := 59) rfl rfl rfl rfl ?_
    refine x_iadd (i := 32) (pc' := 60) rfl rfl ?_
    refine x_iload_n (i := 33) (pc' := 61) rfl rfl rfl rfl ?_
    refine m_iast (i := 34) (pc' := 62) rfl rfl (sh77 G) (by decide) ⟨by (repeat' split at *) <;> omega, by (repeat' split at *) <;> omega⟩ ?_
    refine x_iload_n (i := 35) (pc' := 63) rfl rfl rfl rfl ?_
    exact m_ireturn (i := 36) rfl rfl (by (have e9 := zlo (134 + a) (by omega); rw [← e9] at hQ; exact hQ))
  · rw [if_neg hcc, if_neg hcc] at hQ
    refine x_iload_n (i := 0) (pc' := 1) rfl rfl rfl rfl ?_
    refine m_callS (i := 1) (pc' := 4) (av := [_]) (rest := []) rfl rfl (by decide) lX12_209 rfl rfl (Nat.le_of_ble_eq_true rfl) (Nat.le_refl _) (Nat.le_refl _) (s_X12_isSpot (by assumption) ?_)
    dsimp only [psh]
    refine x_ifeq (i := 2) (pc' := 7) (tgt := 14) rfl rfl (by decide) (by (repeat' split at *) <;> omega) (fun c1 => ?_) (fun c1 => ?_)
    · skip
      refine x_aload_n (i := 6) (pc' := 15) rfl rfl rfl rfl ?_
      refine x_bipush (i := 7) (pc' := 17) rfl rfl (by decide) ?_
      refine m_callV (i := 8) (pc' := 20) (av := [_]) (rest := []) rfl rfl (by decide) lX12_69 (sh76 G) rfl rfl rfl rfl rfl (Nat.le_of_ble_eq_true rfl) (Nat.le_refl _) (Nat.le_refl _) (s_X12_refuses (by omega) ?_)
      dsimp only [psh]
      exact m_ireturn (i := 9) rfl rfl (hQ)
    · skip
      refine x_iload_n (i := 3) (pc' := 8) rfl rfl rfl rfl ?_
      refine m_callS (i := 4) (pc' := 11) (av := [_]) (rest := []) rfl rfl (by decide) lX12_209 rfl rfl (Nat.le_of_ble_eq_true rfl) (Nat.le_refl _) (Nat.le_refl _) (s_X12_isSpot (by assumption) ?_)
      dsimp only [psh]
      refine x_ifne (i := 5) (pc' := 14) (tgt := 21) rfl rfl (by decide) (by (repeat' split at *) <;> omega) (fun c2 => ?_) (fun c2 => ?_)
      · skip
        exfalso; (repeat' split at *) <;> omega
      · skip
        refine x_aload_n (i := 6) (pc' := 15) rfl rfl rfl rfl ?_
        refine x_bipush (i := 7) (pc' := 17) rfl rfl (by decide) ?_
        refine m_callV (i := 8) (pc' := 20) (av := [_]) (rest := []) rfl rfl (by decide) lX12_69 (sh76 G) rfl rfl rfl rfl rfl (Nat.le_of_ble_eq_true rfl) (Nat.le_refl _) (Nat.le_refl _) (s_X12_refuses (by omega) ?_)
        dsimp only [psh]
        exact m_ireturn (i := 9) rfl rfl (hQ)
