theorem dr_go {G : GG} {y : Mem} {Q : Option Value → Mem → Prop} {a b : Int} (ha : 0 ≤ a ∧ a ≤ 999999) (hb : 1 ≤ b ∧ b ≤ 16) (hM : MR y) (hn : NM y) (hQ : Q (some (.int (J (drs y a b).1))) (drs y a b).2) : BW G 4 mX12_draws Q 35 [some (.ref (G.2.2.2 76)), some (.int (J (a))), some (.int (J (b))), none, none, none, none, none, none, none] [] y := by
  have hy : DRI (stm y 76 5 a) := ⟨hM.st (by omega), hn, by rw [stm_eq]; omega⟩
  refine x_aload_n (i := 18) (pc' := 36) rfl rfl rfl rfl ?_
  refine x_iload_n (i := 19) (pc' := 37) rfl rfl rfl rfl ?_
  refine x_i2l (i := 20) (pc' := 38) rfl rfl ⟨by omega, by omega⟩ ?_
  refine m_putf (kz := 5) (i := 21) (pc' := 41) rfl rfl flX12_99 (sh76 G) (fun _ => rfl) rfl (Nat.le_of_ble_eq_true rfl) rfl rfl ?_
  refine x_iconst (i := 22) (pc' := 42) rfl rfl ?_
  refine x_istore_n (L' := [some _, some _, some _, some _, none, none, none, none, none, none]) (i := 23) (pc' := 43) rfl rfl rfl rfl (by decide) rfl ?_
  refine x_iconst (i := 24) (pc' := 44) rfl rfl ?_
  refine x_istore (L' := [some _, some _, some _, some _, some _, none, none, none, none, none]) (i := 25) (pc' := 46) rfl rfl rfl (by decide) rfl ?_
  exact dr_loop hb hy hQ
theorem dr_hd {G : GG} {m : Mem} {Q : Option Value → Mem → Prop} {a b : Int} (ha : 0 ≤ a ∧ a ≤ 999999) (hb : 1 ≤ b ∧ b ≤ 16) (hk : BW G 4 mX12_draws Q 31 [some (.ref (G.2.2.2 76)), some (.int (J (a))), some (.int (J (b))), none, none, none, none, none, none, none] [] m) : BW G 4 mX12_draws Q 0 [some (.ref (G.2.2.2 76)), some (.int (J (a))), some (.int (J (b))), none, none, none, none, none, none, none] [] m := by
  refine x_iload_n (i := 0) (pc' := 1) rfl rfl rfl rfl ?_
  refine x_i2l (i := 1) (pc' := 2) rfl rfl (by (repeat' split at *) <;> omega) ?_
  refine x_lconst (a := 0) (i := 2) (pc' := 3) rfl rfl rfl ?_
  refine x_ldc2 (i := 3) (pc' := 6) rfl rfl kX12_113 ?_
  refine m_callS (i := 4) (pc' := 9) (av := [_, _, _]) (rest := []) rfl rfl (by decide) lX12_42 rfl rfl (Nat.le_of_ble_eq_true rfl) (Nat.le_refl _) (Nat.le_refl _) (s_X12_in (by omega) (by omega) (by omega) ?_)
  dsimp only [psh]
  refine x_ifeq (i := 5) (pc' := 12) (tgt := 24) rfl rfl (by decide) (by (repeat' split at *) <;> omega) (fun c1 => by exfalso; (repeat' split at *) <;> omega) (fun c1 => ?_)
  refine x_iload_n (i := 6) (pc' := 13) rfl rfl rfl rfl ?_
  refine x_i2l (i := 7) (pc' := 14) rfl rfl (by (repeat' split at *) <;> omega) ?_
  refine x_lconst (a := 1) (i := 8) (pc' := 15) rfl rfl rfl ?_
  refine x_ldc2 (i := 9) (pc' := 18) rfl rfl kX12_115 ?_
  refine m_callS (i := 10) (pc' := 21) (av := [_, _, _]) (rest := []) rfl rfl (by decide) lX12_42 rfl rfl (Nat.le_of_ble_eq_true rfl) (Nat.le_refl _) (Nat.le_refl _) (s_X12_in (by omega) (by omega) (by omega) ?_)
  dsimp only [psh]
  refine x_ifne (i := 11) (pc' := 24) (tgt := 31) rfl rfl (by decide) (by (repeat' split at *) <;> omega) (fun c2 => ?_) (fun c2 => by exfalso; (repeat' split at *) <;> omega)
  exact hk
theorem dr_no {G : GG} {m : Mem} {Q : Option Value → Mem → Prop} {a b : Int} (ra : rg a) (rb : rg b) (hcc : ¬ ((0 ≤ a ∧ a ≤ 999999) ∧ (1 ≤ b ∧ b ≤ 16))) (hQ : Q (some (.int (J (-2)))) (rfm m (-2))) : BW G 4 mX12_draws Q 0 [some (.ref (G.2.2.2 76)), some (.int (J (a))), some (.int (J (b))), none, none, none, none, none, none, none] [] m := by
  refine x_iload_n (i := 0) (pc' := 1) rfl rfl rfl rfl ?_
  refine x_i2l (i := 1) (pc' := 2) rfl rfl (by (repeat' split at *) <;> omega) ?_
  refine x_lconst (a := 0) (i := 2) (pc' := 3) rfl rfl rfl ?_
  refine x_ldc2 (i := 3) (pc' := 6) rfl rfl kX12_113 ?_
  refine m_callS (i := 4) (pc' := 9) (av := [_, _, _]) (rest := []) rfl rfl (by decide) lX12_42 rfl rfl (Nat.le_of_ble_eq_true rfl) (Nat.le_refl _) (Nat.le_refl _) (s_X12_in (by omega) (by omega) (by omega) ?_)
  dsimp only [psh]
  refine x_ifeq (i := 5) (pc' := 12) (tgt := 24) rfl rfl (by decide) (by (repeat' split at *) <;> omega) (fun c1 => ?_) (fun c1 => ?_)
  · skip
    refine x_aload_n (i := 12) (pc' := 25) rfl rfl rfl rfl ?_
    refine x_bipush (i := 13) (pc' := 27) rfl rfl (by decide) ?_
    refine m_callV (i := 14) (pc' := 30) (av := [_]) (rest := []) rfl rfl (by decide) lX12_69 (sh76 G) rfl rfl rfl rfl rfl (Nat.le_of_ble_eq_true rfl) (Nat.le_refl _) (Nat.le_refl _) (s_X12_refuses (by omega) ?_)
    dsimp only [psh]
    exact m_ireturn (i := 15) rfl rfl (hQ)
  · skip
    refine x_iload_n (i := 6) (pc' := 13) rfl rfl rfl rfl ?_
    refine x_i2l (i := 7) (pc' := 14) rfl rfl (by (repeat' split at *) <;> omega) ?_
    refine x_lconst (a := 1) (i := 8) (pc' := 15) rfl rfl rfl ?_
    refine x_ldc2 (i := 9) (pc' := 18) rfl rfl kX12_115 ?_
    refine m_callS (i := 10) (pc' := 21) (av := [_, _, _]) (rest := []) rfl rfl (by decide) lX12_42 rfl rfl (Nat.le_of_ble_eq_true rfl) (Nat.le_refl _) (Nat.le_refl _) (s_X12_in (by omega) (by omega) (by omega) ?_)
    dsimp only [psh]
    refine x_ifne (i := 11) (pc' := 24) (tgt := 31) rfl rfl (by decide) (by (repeat' split at *) <;> omega) (fun c2 => ?_) (fun c2 => ?_)
    · skip
      exfalso; (repeat' split at *) <;> omega
    · skip
      refine x_aload_n (i := 12) (pc' := 25) rfl rfl rfl rfl ?_
      refine x_bipush (i := 13) (pc' := 27) rfl rfl (by decide) ?_
      refine m_callV (i := 14) (pc' := 30) (av := [_]) (rest := []) rfl rfl (by decide) lX12_69 (sh76 G) rfl rfl rfl rfl rfl (Nat.le_of_ble_eq_true rfl) (Nat.le_refl _) (Nat.le_refl _) (s_X12_refuses (by omega) ?_)
      dsimp only [psh]
      exact m_ireturn (i := 15) rfl rfl (hQ)
theorem dr_mi {G : GG} {m : Mem} {Q : Option Value → Mem → Prop} {a b : Int} (hs : ST m) (hk : ∀ y, y = mdm m → BW G 4 mX12_draws Q 35 [some (.ref (G.2.2.2 76)), some (.int (J (a))), some (.int (J (b))), none, none, none, none, none, none, none] [] y) : BW G 4 mX12_draws Q 31 [some (.ref (G.2.2.2 76)), some (.int (J (a))), some (.int (J (b))), none, none, none, none, none, none, none] [] m := by
  refine x_aload_n (i := 16) (pc' := 32) rfl rfl rfl rfl ?_
  refine m_callV (i := 17) (pc' := 35) (av := []) (rest := []) rfl rfl (by decide) lX12_73 (sh76 G) rfl rfl rfl rfl rfl (Nat.le_of_ble_eq_true rfl) (Nat.le_refl _) (Nat.le_refl _) (s_X12_minds hs ?_)
  dsimp only [psh]
  exact hk _ rfl
theorem s_X12_draws {G : GG} {m : Mem} {Q : Option Value → Mem → Prop} {a b : Int} (h : GM m) (ra : rg a) (rb : rg b) (hQ1 : (0 ≤ a ∧ a ≤ 999999) ∧ (1 ≤ b ∧ b ≤ 16) → ∀ y, y = mdm m → Q (some (.int (J (drs y a b).1))) (drs y a b).2) (hQ0 : ¬ ((0 ≤ a ∧ a ≤ 999999) ∧ (1 ≤ b ∧ b ≤ 16)) → Q (some (.int (J (-2)))) (rfm m (-2)))  : CM G 4 mX12_draws [.ref (G.2.2.2 76), .int (J (a)), .int (J (b))] m Q := by
  refine CM.of dkX12_draws (Or.inl rfl) [some _, some _, some _, none, none, none, none, none, none, none] rfl (Nat.le_of_ble_eq_true rfl) ?_
  obtain ⟨hM, ⟨hn, hc, hv, hst, hw, hwd, hpo⟩, hst5, hle, her⟩ := h
  have hn0 := hn.1; have hn1 := hn.2; have hc0 := hc.1; have hc1 := hc.2
  by_cases hcc : (0 ≤ a ∧ a ≤ 999999) ∧ (1 ≤ b ∧ b ≤ 16)
  · refine dr_hd hcc.1 hcc.2 (dr_mi hst5 (fun y hy => ?_))
    have z0 : y 77 0 = m 77 0 := (by rw [hy]; exact mdm_lo hst5 (by decide))
    have zM : MR y := (by rw [hy]; exact mdm_MR hM hst5)
    exact dr_go hcc.1 hcc.2 zM (by unfold NM; rw [z0]; exact hn) (hQ1 hcc y hy)
  · exact dr_no ra rb hcc (hQ0 hcc)
