def SRm (m : Mem) : Prop := ∀ k, 0 ≤ k → k < m 77 0 → 0 ≤ m 77 (2 + 5 * k + 4) ∧ m 77 (2 + 5 * k + 4) ≤ 3
def WDm (m : Mem) : Prop := ∀ i, 0 ≤ i → i < m 77 1 → (0 ≤ m 77 (82 + 3 * i + 0) ∧ m 77 (82 + 3 * i + 0) < m 77 0) ∧ (-1 ≤ m 77 (82 + 3 * i + 1) ∧ m 77 (82 + 3 * i + 1) ≤ 5) ∧ (-1 ≤ m 77 (82 + 3 * i + 2) ∧ m 77 (82 + 3 * i + 2) ≤ 5)
def POm (m : Mem) : Prop := ∀ s, 0 ≤ s → s ≤ 5 → 0 ≤ m 77 (134 + s) ∧ m 77 (134 + s) ≤ 5
def ERm (m : Mem) : Prop := ∀ i, 0 ≤ i → i ≤ 2 → 0 ≤ m 78 i ∧ m 78 i ≤ 100000
def GM (m : Mem) : Prop := MR m ∧ (NM m ∧ CMd m ∧ PVs m ∧ SRm m ∧ WTm m ∧ WDm m ∧ POm m) ∧ ST m ∧ (0 ≤ m 76 4 ∧ m 76 4 ≤ 120) ∧ ERm m
theorem s_X12_of {G : GG} {m : Mem} {Q : Option Value → Mem → Prop} {a b : Int} (h : GM m) (ra : rg a) (rb : rg b) (hQ : Q (some (.int (J (if (0 ≤ a ∧ a < m 77 0) ∧ (0 ≤ b ∧ b ≤ 5) then (if b < 5 then m 77 (2 + 5 * a + b) else wdw m a) else -2)))) (if (0 ≤ a ∧ a < m 77 0) ∧ (0 ≤ b ∧ b ≤ 5) then (m) else rfm m (-2))) : CM G 2 mX12_of [.ref (G.2.2.2 76), .int (J (a)), .int (J (b))] m Q := by
  refine CM.of dkX12_of (Or.inl rfl) [some _, some _, some _] rfl (Nat.le_of_ble_eq_true rfl) ?_
  obtain ⟨hM, ⟨hn, hc, hv, hst, hw, hwd, hpo⟩, hst5, hle, her⟩ := h
  have hn0 := hn.1; have hn1 := hn.2; have hc0 := hc.1; have hc1 := hc.2
  refine x_aload_n (i := 0) (pc' := 1) rfl rfl rfl rfl ?_
  refine x_iload_n (i := 1) (pc' := 2) rfl rfl rfl rfl ?_
  refine m_callV (i := 2) (pc' := 5) (av := [_]) (rest := []) rfl rfl (by decide) lX12_79 (sh76 G) rfl rfl rfl rfl rfl (Nat.le_of_ble_eq_true rfl) (Nat.le_refl _) (Nat.le_refl _) (s_X12_isSign hn ra ?_)
  dsimp only [psh]
  refine x_ifeq (i := 3) (pc' := 8) (tgt := 20) rfl rfl (by decide) (by (repeat' split at *) <;> omega) (fun c1 => ?_) (fun c1 => ?_)
  · skip
    refine x_aload_n (i := 10) (pc' := 21) rfl rfl rfl rfl ?_
    refine x_bipush (i := 11) (pc' := 23) rfl rfl (by decide) ?_
    refine m_callV (i := 12) (pc' := 26) (av := [_]) (rest := []) rfl rfl (by decide) lX12_69 (sh76 G) rfl rfl rfl rfl rfl (Nat.le_of_ble_eq_true rfl) (Nat.le_refl _) (Nat.le_refl _) (s_X12_refuses (by omega) ?_)
    dsimp only [psh]
    exact m_ireturn (i := 13) rfl rfl (by (repeat' split at hQ) <;> (repeat' split at *) <;> first | exact hQ | (exfalso; omega))
  · skip
    refine x_iload_n (i := 4) (pc' := 9) rfl rfl rfl rfl ?_
    refine x_i2l (i := 5) (pc' := 10) rfl rfl (by (repeat' split at *) <;> omega) ?_
    refine x_lconst (a := 0) (i := 6) (pc' := 11) rfl rfl rfl ?_
    refine x_ldc2 (i := 7) (pc' := 14) rfl rfl kX12_93 ?_
    refine m_callS (i := 8) (pc' := 17) (av := [_, _, _]) (rest := []) rfl rfl (by decide) lX12_42 rfl rfl (Nat.le_of_ble_eq_true rfl) (Nat.le_refl _) (Nat.le_refl _) (s_X12_in (by omega) (by omega) (by omega) ?_)
    dsimp only [psh]
    refine x_ifne (i := 9) (pc' := 20) (tgt := 27) rfl rfl (by decide) (by (repeat' split at *) <;> omega) (fun c2 => ?_) (fun c2 => ?_)
    · skip
      refine x_iload_n (i := 14) (pc' := 28) rfl rfl rfl rfl ?_
      refine x_iconst (i := 15) (pc' := 29) rfl rfl ?_
      refine x_icmpge (i := 16) (pc' := 32) (tgt := 41) rfl rfl (by decide) (by (repeat' split at *) <;> omega) (by (repeat' split at *) <;> omega) (fun c3 => ?_) (fun c3 => ?_)
      · skip
        refine x_aload_n (i := 22) (pc' := 42) rfl rfl rfl rfl ?_
        refine x_iload_n (i := 23) (pc' := 43) rfl rfl rfl rfl ?_
        refine m_callV (i := 24) (pc' := 46) (av := [_]) (rest := []) rfl rfl (by decide) lX12_84 (sh76 G) rfl rfl rfl rfl rfl (Nat.le_of_ble_eq_true rfl) (Nat.le_refl _) (Nat.le_refl _) (s_X12_wordsWith hM hc ra ?_)
        dsimp only [psh]
        exact m_ireturn (i := 25) rfl rfl (by (repeat' split at hQ) <;> (repeat' split at *) <;> first | exact hQ | (exfalso; omega))
      · skip
        refine x_aload_n (i := 17) (pc' := 33) rfl rfl rfl rfl ?_
        refine x_iload_n (i := 18) (pc' := 34) rfl rfl rfl rfl ?_
        refine x_iload_n (i := 19) (pc' := 35) rfl rfl rfl rfl ?_
        refine m_callV (i := 20) (pc' := 38) (av := [_, _]) (rest := []) rfl rfl (by decide) lX12_52 (sh76 G) rfl rfl rfl rfl rfl (Nat.le_of_ble_eq_true rfl) (Nat.le_refl _) (Nat.le_refl _) (s_X12_part (by (repeat' split at *) <;> omega) (by (repeat' split at *) <;> omega) ?_)
        dsimp only [psh]
        refine x_goto (i := 21) (pc' := 46) rfl (by decide) ?_
        exact m_ireturn (i := 25) rfl rfl (by (repeat' split at hQ) <;> (repeat' split at *) <;> first | exact hQ | (exfalso; omega))
    · skip
      refine x_aload_n (i := 10) (pc' := 21) rfl rfl rfl rfl ?_
      refine x_bipush (i := 11) (pc' := 23) rfl rfl (by decide) ?_
      refine m_callV (i := 12) (pc' := 26) (av := [_]) (rest := []) rfl rfl (by decide) lX12_69 (sh76 G) rfl rfl rfl rfl rfl (Nat.le_of_ble_eq_true rfl) (Nat.le_refl _) (Nat.le_refl _) (s_X12_refuses (by omega) ?_)
      dsimp only [psh]
      exact m_ireturn (i := 13) rfl rfl (by (repeat' split at hQ) <;> (repeat' split at *) <;> first | exact hQ | (exfalso; omega))
theorem s_X12_apart {G : GG} {m : Mem} {Q : Option Value → Mem → Prop} {a b c : Int} (h : GM m) (ra : rg a) (rb : rg b) (rc : rg c) (hQ : Q (some (.int (J (if ((0 ≤ a ∧ a < m 77 0) ∧ (0 ≤ b ∧ b < m 77 0)) ∧ (0 ≤ c ∧ c ≤ 4) then (if c = 4 then btw m a b else gp c (m 77 (2 + 5 * a + c)) (m 77 (2 + 5 * b + c))) else -2)))) (if ((0 ≤ a ∧ a < m 77 0) ∧ (0 ≤ b ∧ b < m 77 0)) ∧ (0 ≤ c ∧ c ≤ 4) then (m) else rfm m (-2))) : CM G 4 mX12_apart [.ref (G.2.2.2 76), .int (J (a)), .int (J (b)), .int (J (c))] m Q := by
  refine CM.of dkX12_apart (Or.inl rfl) [some _, some _, some _, some _] rfl (Nat.le_of_ble_eq_true rfl) ?_
  obtain ⟨hM, ⟨hn, hc, hv, hst, hw, hwd, hpo⟩, hst5, hle, her⟩ := h
  have hn0 := hn.1; have hn1 := hn.2; have hc0 := hc.1; have hc1 := hc.2
  refine x_aload_n (i := 0) (pc' := 1) rfl rfl rfl rfl ?_
  refine x_iload_n (i := 1) (pc' := 2) rfl rfl rfl rfl ?_
  refine m_callV (i := 2) (pc' := 5) (av := [_]) (rest := []) rfl rfl (by decide) lX12_79 (sh76 G) rfl rfl rfl rfl rfl (Nat.le_of_ble_eq_true rfl) (Nat.le_refl _) (Nat.le_refl _) (s_X12_isSign hn (by assumption) ?_)
  dsimp only [psh]
  refine x_ifeq (i := 3) (pc' := 8) (tgt := 28) rfl rfl (by decide) (by (repeat' split at *) <;> omega) (fun c1 => ?_) (fun c1 => ?_)
  · skip
    refine x_aload_n (i := 14) (pc' := 29) rfl rfl rfl rfl ?_
    refine x_bipush (i := 15) (pc' := 31) rfl rfl (by decide) ?_
    refine m_callV (i := 16) (pc' := 34) (av := [_]) (rest := []) rfl rfl (by decide) lX12_69 (sh76 G) rfl rfl rfl rfl rfl (Nat.le_of_ble_eq_true rfl) (Nat.le_refl _) (Nat.le_refl _) (s_X12_refuses (by omega) ?_)
    dsimp only [psh]
    exact m_ireturn (i := 17) rfl rfl (by (repeat' split at hQ) <;> (repeat' split at *) <;> first | exact hQ | (exfalso; omega))
  · skip
    refine x_aload_n (i := 4) (pc' := 9) rfl rfl rfl rfl ?_
    refine x_iload_n (i := 5) (pc' := 10) rfl rfl rfl rfl ?_
    refine m_callV (i := 6) (pc' := 13) (av := [_]) (rest := []) rfl rfl (by decide) lX12_79 (sh76 G) rfl rfl rfl rfl rfl (Nat.le_of_ble_eq_true rfl) (Nat.le_refl _) (Nat.le_refl _) (s_X12_isSign hn (by assumption) ?_)
    dsimp only [psh]
    refine x_ifeq (i := 7) (pc' := 16) (tgt := 28) rfl rfl (by decide) (by (repeat' split at *) <;> omega) (fun c2 => ?_) (fun c2 => ?_)
    · skip
      refine x_aload_n (i := 14) (pc' := 29) rfl rfl rfl rfl ?_
      refine x_bipush (i := 15) (pc' := 31) rfl rfl (by decide) ?_
      refine m_callV (i := 16) (pc' := 34) (av := [_]) (rest := []) rfl rfl (by decide) lX12_69 (sh76 G) rfl rfl rfl rfl rfl (Nat.le_of_ble_eq_true rfl) (Nat.le_refl _) (Nat.le_refl _) (s_X12_refuses (by omega) ?_)
      dsimp only [psh]
      exact m_ireturn (i := 17) rfl rfl (by (repeat' split at hQ) <;> (repeat' split at *) <;> first | exact hQ | (exfalso; omega))
    · skip
      refine x_iload_n (i := 8) (pc' := 17) rfl rfl rfl rfl ?_
      refine x_i2l (i := 9) (pc' := 18) rfl rfl (by (repeat' split at *) <;> omega) ?_
      refine x_lconst (a := 0) (i := 10) (pc' := 19) rfl rfl rfl ?_
      refine x_ldc2 (i := 11) (pc' := 22) rfl rfl kX12_82 ?_
      refine m_callS (i := 12) (pc' := 25) (av := [_, _, _]) (rest := []) rfl rfl (by decide) lX12_42 rfl rfl (Nat.le_of_ble_eq_true rfl) (Nat.le_refl _) (Nat.le_refl _) (s_X12_in (by omega) (by omega) (by omega) ?_)
      dsimp only [psh]
      refine x_ifne (i := 13) (pc' := 28) (tgt := 35) rfl rfl (by decide) (by (repeat' split at *) <;> omega) (fun c3 => ?_) (fun c3 => ?_)
      · skip
        refine x_iload_n (i := 18) (pc' := 36) rfl rfl rfl rfl ?_
        refine x_iconst (i := 19) (pc' := 37) rfl rfl ?_
        refine x_icmpne (i := 20) (pc' := 40) (tgt := 49) rfl rfl (by decide) (by (repeat' split at *) <;> omega) (by (repeat' split at *) <;> omega) (fun c4 => ?_) (fun c4 => ?_)
        · skip
          refine x_iload_n (i := 26) (pc' := 50) rfl rfl rfl rfl ?_
          refine x_aload_n (i := 27) (pc' := 51) rfl rfl rfl rfl ?_
          refine x_iload_n (i := 28) (pc' := 52) rfl rfl rfl rfl ?_
          refine x_iload_n (i := 29) (pc' := 53) rfl rfl rfl rfl ?_
          refine m_callV (i := 30) (pc' := 56) (av := [_, _]) (rest := [_]) rfl rfl (by decide) lX12_52 (sh76 G) rfl rfl rfl rfl rfl (Nat.le_of_ble_eq_true rfl) (Nat.le_refl _) (Nat.le_refl _) (s_X12_part (by (repeat' split at *) <;> omega) (by (repeat' split at *) <;> omega) ?_)
          dsimp only [psh]
          refine x_aload_n (i := 31) (pc' := 57) rfl rfl rfl rfl ?_
          refine x_iload_n (i := 32) (pc' := 58) rfl rfl rfl rfl ?_
          refine x_iload_n (i := 33) (pc' := 59) rfl rfl rfl rfl ?_
          refine m_callV (i := 34) (pc' := 62) (av := [_, _]) (rest := [_, _]) rfl rfl (by decide) lX12_52 (sh76 G) rfl rfl rfl rfl rfl (Nat.le_of_ble_eq_true rfl) (Nat.le_refl _) (Nat.le_refl _) (s_X12_part (by (repeat' split at *) <;> omega) (by (repeat' split at *) <;> omega) ?_)
          dsimp only [psh]
          refine m_callS (i := 35) (pc' := 65) (av := [_, _, _]) (rest := []) rfl rfl (by decide) lX12_127 rfl rfl (Nat.le_of_ble_eq_true rfl) (Nat.le_refl _) (Nat.le_refl _) (s_X12_apartBy (by (repeat' split at *) <;> omega) (hv a (by (repeat' split at *) <;> omega) (by (repeat' split at *) <;> omega) c (by (repeat' split at *) <;> omega) (by (repeat' split at *) <;> omega)) (hv b (by (repeat' split at *) <;> omega) (by (repeat' split at *) <;> omega) c (by (repeat' split at *) <;> omega) (by (repeat' split at *) <;> omega)) ?_)
          dsimp only [psh]
          exact m_ireturn (i := 36) rfl rfl (by (repeat' split at hQ) <;> (repeat' split at *) <;> first | exact hQ | (exfalso; omega))
        · skip
          refine x_aload_n (i := 21) (pc' := 41) rfl rfl rfl rfl ?_
          refine x_iload_n (i := 22) (pc' := 42) rfl rfl rfl rfl ?_
          refine x_iload_n (i := 23) (pc' := 43) rfl rfl rfl rfl ?_
          refine m_callV (i := 24) (pc' := 46) (av := [_, _]) (rest := []) rfl rfl (by decide) lX12_134 (sh76 G) rfl rfl rfl rfl rfl (Nat.le_of_ble_eq_true rfl) (Nat.le_refl _) (Nat.le_refl _) (s_X12_between (by (repeat' split at *) <;> omega) (by (repeat' split at *) <;> omega) (hv a (by (repeat' split at *) <;> omega) (by (repeat' split at *) <;> omega)) (hv b (by (repeat' split at *) <;> omega) (by (repeat' split at *) <;> omega)) ?_)
          dsimp only [psh]
          refine x_goto (i := 25) (pc' := 65) rfl (by decide) ?_
          exact m_ireturn (i := 36) rfl rfl (by (repeat' split at hQ) <;> (repeat' split at *) <;> first | exact hQ | (exfalso; omega))
      · skip
        refine x_aload_n (i := 14) (pc' := 29) rfl rfl rfl rfl ?_
        refine x_bipush (i := 15) (pc' := 31) rfl rfl (by decide) ?_
        refine m_callV (i := 16) (pc' := 34) (av := [_]) (rest := []) rfl rfl (by decide) lX12_69 (sh76 G) rfl rfl rfl rfl rfl (Nat.le_of_ble_eq_true rfl) (Nat.le_refl _) (Nat.le_refl _) (s_X12_refuses (by omega) ?_)
        dsimp only [psh]
        exact m_ireturn (i := 17) rfl rfl (by (repeat' split at hQ) <;> (repeat' split at *) <;> first | exact hQ | (exfalso; omega))
theorem s_X12_near {G : GG} {m : Mem} {Q : Option Value → Mem → Prop} {a b : Int} (h : GM m) (ra : rg a) (rb : rg b) (hQ : Q (some (.int (J (if (0 ≤ a ∧ a < m 77 0) ∧ (0 ≤ b ∧ b ≤ 99) then (nrf m a b) else -2)))) (if (0 ≤ a ∧ a < m 77 0) ∧ (0 ≤ b ∧ b ≤ 99) then (m) else rfm m (-2))) : CM G 5 mX12_near [.ref (G.2.2.2 76), .int (J (a)), .int (J (b))] m Q := by
  refine CM.of dkX12_near (Or.inl rfl) [some _, some _, some _] rfl (Nat.le_of_ble_eq_true rfl) ?_
  obtain ⟨hM, ⟨hn, hc, hv, hst, hw, hwd, hpo⟩, hst5, hle, her⟩ := h
  have hn0 := hn.1; have hn1 := hn.2; have hc0 := hc.1; have hc1 := hc.2
  refine x_aload_n (i := 0) (pc' := 1) rfl rfl rfl rfl ?_
  refine x_iload_n (i := 1) (pc' := 2) rfl rfl rfl rfl ?_
  refine m_callV (i := 2) (pc' := 5) (av := [_]) (rest := []) rfl rfl (by decide) lX12_79 (sh76 G) rfl rfl rfl rfl rfl (Nat.le_of_ble_eq_true rfl) (Nat.le_refl _) (Nat.le_refl _) (s_X12_isSign hn ra ?_)
  dsimp only [psh]
  refine x_ifeq (i := 3) (pc' := 8) (tgt := 29) rfl rfl (by decide) (by (repeat' split at *) <;> omega) (fun c1 => ?_) (fun c1 => ?_)
  · skip
    refine x_aload_n (i := 15) (pc' := 30) rfl rfl rfl rfl ?_
    refine x_bipush (i := 16) (pc' := 32) rfl rfl (by decide) ?_
    refine m_callV (i := 17) (pc' := 35) (av := [_]) (rest := []) rfl rfl (by decide) lX12_69 (sh76 G) rfl rfl rfl rfl rfl (Nat.le_of_ble_eq_true rfl) (Nat.le_refl _) (Nat.le_refl _) (s_X12_refuses (by omega) ?_)
    dsimp only [psh]
    exact m_ireturn (i := 18) rfl rfl (by (repeat' split at hQ) <;> (repeat' split at *) <;> first | exact hQ | (exfalso; omega))
  · skip
    refine x_iload_n (i := 4) (pc' := 9) rfl rfl rfl rfl ?_
    refine x_i2l (i := 5) (pc' := 10) rfl rfl (by (repeat' split at *) <;> omega) ?_
    refine x_lconst (a := 0) (i := 6) (pc' := 11) rfl rfl rfl ?_
    refine x_ldc2 (i := 7) (pc' := 14) rfl rfl kX12_146 ?_
    refine m_callS (i := 8) (pc' := 17) (av := [_, _, _]) (rest := []) rfl rfl (by decide) lX12_42 rfl rfl (Nat.le_of_ble_eq_true rfl) (Nat.le_refl _) (Nat.le_refl _) (s_X12_in (by omega) (by omega) (by omega) ?_)
    dsimp only [psh]
    refine x_ifeq (i := 9) (pc' := 20) (tgt := 29) rfl rfl (by decide) (by (repeat' split at *) <;> omega) (fun c2 => ?_) (fun c2 => ?_)
    · skip
      refine x_aload_n (i := 15) (pc' := 30) rfl rfl rfl rfl ?_
      refine x_bipush (i := 16) (pc' := 32) rfl rfl (by decide) ?_
      refine m_callV (i := 17) (pc' := 35) (av := [_]) (rest := []) rfl rfl (by decide) lX12_69 (sh76 G) rfl rfl rfl rfl rfl (Nat.le_of_ble_eq_true rfl) (Nat.le_refl _) (Nat.le_refl _) (s_X12_refuses (by omega) ?_)
      dsimp only [psh]
      exact m_ireturn (i := 18) rfl rfl (by (repeat' split at hQ) <;> (repeat' split at *) <;> first | exact hQ | (exfalso; omega))
    · skip
      refine x_aload_n (i := 10) (pc' := 21) rfl rfl rfl rfl ?_
      refine x_iload_n (i := 11) (pc' := 22) rfl rfl rfl rfl ?_
      refine x_iload_n (i := 12) (pc' := 23) rfl rfl rfl rfl ?_
      refine m_callV (i := 13) (pc' := 26) (av := [_, _]) (rest := []) rfl rfl (by decide) lX12_148 (sh76 G) rfl rfl rfl rfl rfl (Nat.le_of_ble_eq_true rfl) (Nat.le_refl _) (Nat.le_refl _) (s_X12_nearOf hM hn hv hw (by (repeat' split at *) <;> omega) rb ?_)
      dsimp only [psh]
      refine x_goto (i := 14) (pc' := 35) rfl (by decide) ?_
      exact m_ireturn (i := 18) rfl rfl (by (repeat' split at hQ) <;> (repeat' split at *) <;> first | exact hQ | (exfalso; omega))
theorem s_X12_sorts {G : GG} {m : Mem} {Q : Option Value → Mem → Prop} {a : Int} (h : GM m) (ra : rg a) (hQ : Q (some (.int (J (if 0 ≤ a ∧ a ≤ 3 then (sos m a) else -2)))) (if 0 ≤ a ∧ a ≤ 3 then m else rfm m (-2))) : CM G 1 mX12_sorts [.ref (G.2.2.2 76), .int (J (a))] m Q := by
  refine CM.of dkX12_sorts (Or.inl rfl) [some _, some _, none, none] rfl (Nat.le_of_ble_eq_true rfl) ?_
  obtain ⟨hM, ⟨hn, hc, hv, hst, hw, hwd, hpo⟩, hst5, hle, her⟩ := h
  have hn0 := hn.1; have hn1 := hn.2; have hc0 := hc.1; have hc1 := hc.2
  refine x_iload_n (i := 0) (pc' := 1) rfl rfl rfl rfl ?_
  refine x_i2l (i := 1) (pc' := 2) rfl rfl (by (repeat' split at *) <;> omega) ?_
  refine x_lconst (a := 0) (i := 2) (pc' := 3) rfl rfl rfl ?_
  refine x_ldc2 (i := 3) (pc' := 6) rfl rfl kX12_60 ?_
  refine m_callS (i := 4) (pc' := 9) (av := [_, _, _]) (rest := []) rfl rfl (by decide) lX12_42 rfl rfl (Nat.le_of_ble_eq_true rfl) (Nat.le_refl _) (Nat.le_refl _) (s_X12_in (by omega) (by omega) (by omega) ?_)
  dsimp only [psh]
  refine x_ifne (i := 5) (pc' := 12) (tgt := 19) rfl rfl (by decide) (by (repeat' split at *) <;> omega) (fun c1 => ?_) (fun c1 => ?_)
  · skip
    refine x_iconst (i := 10) (pc' := 20) rfl rfl ?_
    refine x_istore_n (L' := [some _, some _, some _, none]) (i := 11) (pc' := 21) rfl rfl rfl rfl (by decide) rfl ?_
    refine x_iconst (i := 12) (pc' := 22) rfl rfl ?_
    refine x_istore_n (L' := [some _, some _, some _, some _]) (i := 13) (pc' := 23) rfl rfl rfl rfl (by decide) rfl ?_
    have hcc : 0 ≤ a ∧ a ≤ 3 := (by (repeat' split at *) <;> omega)
    rw [if_pos hcc, if_pos hcc] at hQ
    refine up_ind0 (P := fun (j : Int) (x : Int) => BW G 1 mX12_sorts Q 23 [some (.ref (G.2.2.2 76)), some (.int (J (a))), some (.int (J (x))), some (.int (J (j)))] [] m) (fun (j : Int) (x : Int) => x + (if m 77 (2 + 5 * j + 4) = a then 1 else 0)) (m 77 0) (0) (0) (by omega) (fun j x hj0 hj hk => ?_) ?_
    · skip
      refine x_iload_n (i := 14) (pc' := 24) rfl rfl rfl rfl ?_
      refine x_aload_n (i := 15) (pc' := 25) rfl rfl rfl rfl ?_
      refine m_getf (i := 16) (pc' := 28) rfl rfl flX12_7 (sh76 G) rfl rfl ?_
      refine x_iconst (i := 17) (pc' := 29) rfl rfl ?_
      refine m_iald (i := 18) (pc' := 30) rfl rfl (sh77 G) (by decide) ⟨by omega, by omega⟩ ?_
      refine x_icmpge (i := 19) (pc' := 33) (tgt := 57) rfl rfl (by decide) (by first | omega | exact hM _ _) (by first | omega | exact hM _ _) (fun e1 => by exfalso; omega) (fun e1 => ?_)
      refine x_iload_n (i := 20) (pc' := 34) rfl rfl rfl rfl ?_
      refine x_aload_n (i := 21) (pc' := 35) rfl rfl rfl rfl ?_
      refine x_iload_n (i := 22) (pc' := 36) rfl rfl rfl rfl ?_
      refine x_iconst (i := 23) (pc' := 37) rfl rfl ?_
      refine m_callV (i := 24) (pc' := 40) (av := [_, _]) (rest := [_]) rfl rfl (by decide) lX12_52 (sh76 G) rfl rfl rfl rfl rfl (Nat.le_of_ble_eq_true rfl) (Nat.le_refl _) (Nat.le_refl _) (s_X12_part (by omega) (by omega) ?_)
      dsimp only [psh]
      refine x_iload_n (i := 25) (pc' := 41) rfl rfl rfl rfl ?_
      refine x_icmpne (i := 26) (pc' := 44) (tgt := 48) rfl rfl (by decide) (by first | omega | exact hM _ _) (by first | omega | exact hM _ _) (fun e2 => ?_) (fun e2 => ?_)
      · skip
        refine x_iconst (i := 29) (pc' := 49) rfl rfl ?_
        refine x_iadd (i := 30) (pc' := 50) rfl rfl ?_
        refine x_istore_n (L' := [some _, some _, some _, some _]) (i := 31) (pc' := 51) rfl rfl rfl rfl (by decide) rfl ?_
        refine x_iinc (L' := [some _, some _, some _, some _]) (i := 32) (pc' := 54) rfl rfl rfl rfl (by decide) rfl ?_
        refine x_goto (i := 33) (pc' := 23) rfl (by decide) ?_
        (first | exact hk | (refine AW.le ?_ hk; simp [lvle]; done) | ((repeat' split at hk) <;> first | exact hk | (refine AW.le ?_ hk; simp [lvle]; done) | (exfalso; omega)))
      · skip
        refine x_iconst (i := 27) (pc' := 45) rfl rfl ?_
        refine x_goto (i := 28) (pc' := 49) rfl (by decide) ?_
        refine x_iadd (i := 30) (pc' := 50) rfl rfl ?_
        refine x_istore_n (L' := [some _, some _, some _, some _]) (i := 31) (pc' := 51) rfl rfl rfl rfl (by decide) rfl ?_
        refine x_iinc (L' := [some _, some _, some _, some _]) (i := 32) (pc' := 54) rfl rfl rfl rfl (by decide) rfl ?_
        refine x_goto (i := 33) (pc' := 23) rfl (by decide) ?_
        (first | exact hk | (refine AW.le ?_ hk; simp [lvle]; done) | ((repeat' split at hk) <;> first | exact hk | (refine AW.le ?_ hk; simp [lvle]; done) | (exfalso; omega)))
    · skip
      refine x_iload_n (i := 14) (pc' := 24) rfl rfl rfl rfl ?_
      refine x_aload_n (i := 15) (pc' := 25) rfl rfl rfl rfl ?_
      refine m_getf (i := 16) (pc' := 28) rfl rfl flX12_7 (sh76 G) rfl rfl ?_
      refine x_iconst (i := 17) (pc' := 29) rfl rfl ?_
      refine m_iald (i := 18) (pc' := 30) rfl rfl (sh77 G) (by decide) ⟨by omega, by omega⟩ ?_
      refine x_icmpge (i := 19) (pc' := 33) (tgt := 57) rfl rfl (by decide) ⟨by omega, by omega⟩ ⟨by omega, by omega⟩ (fun f1 => ?_) (fun f1 => by exfalso; omega)
      refine x_iload_n (i := 34) (pc' := 58) rfl rfl rfl rfl ?_
      exact m_ireturn (i := 35) rfl rfl (by rw [Int.sub_zero]; exact hQ)
  · skip
    refine x_aload_n (i := 6) (pc' := 13) rfl rfl rfl rfl ?_
    refine x_bipush (i := 7) (pc' := 15) rfl rfl (by decide) ?_
    refine m_callV (i := 8) (pc' := 18) (av := [_]) (rest := []) rfl rfl (by decide) lX12_69 (sh76 G) rfl rfl rfl rfl rfl (Nat.le_of_ble_eq_true rfl) (Nat.le_refl _) (Nat.le_refl _) (s_X12_refuses (by omega) ?_)
    dsimp only [psh]
    exact m_ireturn (i := 9) rfl rfl (by (repeat' split at hQ) <;> (repeat' split at *) <;> first | exact hQ | (exfalso; omega))
theorem s_X12_look {G : GG} {m : Mem} {Q : Option Value → Mem → Prop} {a b c d : Int} (h : GM m) (ra : rg a) (rb : rg b) (rc : rg c) (rd : rg d) (hQ : Q (some (.int (J (if (-1 ≤ a ∧ a ≤ 7) ∧ (-1 ≤ b ∧ b ≤ 7) ∧ (-1 ≤ c ∧ c ≤ 7) ∧ (-1 ≤ d ∧ d ≤ 7) then (lks m a b c d) else -2)))) (if (-1 ≤ a ∧ a ≤ 7) ∧ (-1 ≤ b ∧ b ≤ 7) ∧ (-1 ≤ c ∧ c ≤ 7) ∧ (-1 ≤ d ∧ d ≤ 7) then m else rfm m (-2))) : CM G 2 mX12_look [.ref (G.2.2.2 76), .int (J (a)), .int (J (b)), .int (J (c)), .int (J (d))] m Q := by
  refine CM.of dkX12_look (Or.inl rfl) [some _, some _, some _, some _, some _, none, none] rfl (Nat.le_of_ble_eq_true rfl) ?_
  obtain ⟨hM, ⟨hn, hc, hv, hst, hw, hwd, hpo⟩, hst5, hle, her⟩ := h
  have hn0 := hn.1; have hn1 := hn.2; have hc0 := hc.1; have hc1 := hc.2
  refine x_iload_n (i := 0) (pc' := 1) rfl rfl rfl rfl ?_
  refine m_callS (i := 1) (pc' := 4) (av := [_]) (rest := []) rfl rfl (by decide) lX12_139 rfl rfl (Nat.le_of_ble_eq_true rfl) (Nat.le_refl _) (Nat.le_refl _) (s_X12_isAsked (by assumption) ?_)
  dsimp only [psh]
  refine x_ifeq (i := 2) (pc' := 7) (tgt := 29) rfl rfl (by decide) (by (repeat' split at *) <;> omega) (fun c1 => ?_) (fun c1 => ?_)
  · skip
    refine x_aload_n (i := 12) (pc' := 30) rfl rfl rfl rfl ?_
    refine x_bipush (i := 13) (pc' := 32) rfl rfl (by decide) ?_
    refine m_callV (i := 14) (pc' := 35) (av := [_]) (rest := []) rfl rfl (by decide) lX12_69 (sh76 G) rfl rfl rfl rfl rfl (Nat.le_of_ble_eq_true rfl) (Nat.le_refl _) (Nat.le_refl _) (s_X12_refuses (by omega) ?_)
    dsimp only [psh]
    exact m_ireturn (i := 15) rfl rfl (by (repeat' split at hQ) <;> (repeat' split at *) <;> first | exact hQ | (exfalso; omega))
  · skip
    refine x_iload_n (i := 3) (pc' := 8) rfl rfl rfl rfl ?_
    refine m_callS (i := 4) (pc' := 11) (av := [_]) (rest := []) rfl rfl (by decide) lX12_139 rfl rfl (Nat.le_of_ble_eq_true rfl) (Nat.le_refl _) (Nat.le_refl _) (s_X12_isAsked (by assumption) ?_)
    dsimp only [psh]
    refine x_ifeq (i := 5) (pc' := 14) (tgt := 29) rfl rfl (by decide) (by (repeat' split at *) <;> omega) (fun c2 => ?_) (fun c2 => ?_)
    · skip
      refine x_aload_n (i := 12) (pc' := 30) rfl rfl rfl rfl ?_
      refine x_bipush (i := 13) (pc' := 32) rfl rfl (by decide) ?_
      refine m_callV (i := 14) (pc' := 35) (av := [_]) (rest := []) rfl rfl (by decide) lX12_69 (sh76 G) rfl rfl rfl rfl rfl (Nat.le_of_ble_eq_true rfl) (Nat.le_refl _) (Nat.le_refl _) (s_X12_refuses (by omega) ?_)
      dsimp only [psh]
      exact m_ireturn (i := 15) rfl rfl (by (repeat' split at hQ) <;> (repeat' split at *) <;> first | exact hQ | (exfalso; omega))
    · skip
      refine x_iload_n (i := 6) (pc' := 15) rfl rfl rfl rfl ?_
      refine m_callS (i := 7) (pc' := 18) (av := [_]) (rest := []) rfl rfl (by decide) lX12_139 rfl rfl (Nat.le_of_ble_eq_true rfl) (Nat.le_refl _) (Nat.le_refl _) (s_X12_isAsked (by assumption) ?_)
      dsimp only [psh]
      refine x_ifeq (i := 8) (pc' := 21) (tgt := 29) rfl rfl (by decide) (by (repeat' split at *) <;> omega) (fun c3 => ?_) (fun c3 => ?_)
      · skip
        refine x_aload_n (i := 12) (pc' := 30) rfl rfl rfl rfl ?_
        refine x_bipush (i := 13) (pc' := 32) rfl rfl (by decide) ?_
        refine m_callV (i := 14) (pc' := 35) (av := [_]) (rest := []) rfl rfl (by decide) lX12_69 (sh76 G) rfl rfl rfl rfl rfl (Nat.le_of_ble_eq_true rfl) (Nat.le_refl _) (Nat.le_refl _) (s_X12_refuses (by omega) ?_)
        dsimp only [psh]
        exact m_ireturn (i := 15) rfl rfl (by (repeat' split at hQ) <;> (repeat' split at *) <;> first | exact hQ | (exfalso; omega))
      · skip
        refine x_iload (i := 9) (pc' := 23) rfl rfl rfl ?_
        refine m_callS (i := 10) (pc' := 26) (av := [_]) (rest := []) rfl rfl (by decide) lX12_139 rfl rfl (Nat.le_of_ble_eq_true rfl) (Nat.le_refl _) (Nat.le_refl _) (s_X12_isAsked (by assumption) ?_)
        dsimp only [psh]
        refine x_ifne (i := 11) (pc' := 29) (tgt := 36) rfl rfl (by decide) (by (repeat' split at *) <;> omega) (fun c4 => ?_) (fun c4 => ?_)
        · skip
          refine x_iconst (i := 16) (pc' := 37) rfl rfl ?_
          refine x_istore (L' := [some _, some _, some _, some _, some _, some _, none]) (i := 17) (pc' := 39) rfl rfl rfl (by decide) rfl ?_
          refine x_iconst (i := 18) (pc' := 40) rfl rfl ?_
          refine x_istore (L' := [some _, some _, some _, some _, some _, some _, some _]) (i := 19) (pc' := 42) rfl rfl rfl (by decide) rfl ?_
          have hcc : (-1 ≤ a ∧ a ≤ 7) ∧ (-1 ≤ b ∧ b ≤ 7) ∧ (-1 ≤ c ∧ c ≤ 7) ∧ (-1 ≤ d ∧ d ≤ 7) := (by (repeat' split at *) <;> omega)
          rw [if_pos hcc, if_pos hcc] at hQ
          refine up_ind1 (P := fun (j : Int) (x : Int) => BW G 2 mX12_look Q 42 [some (.ref (G.2.2.2 76)), some (.int (J (a))), some (.int (J (b))), some (.int (J (c))), some (.int (J (d))), some (.int (J (x))), some (.int (J (j)))] [] m) (fun (j : Int) (x : Int) => io x (if (a = -1 ∨ m 77 (2 + 5 * j + 0) = a) ∧ (b = -1 ∨ m 77 (2 + 5 * j + 1) = b) ∧ (c = -1 ∨ m 77 (2 + 5 * j + 2) = c) ∧ (d = -1 ∨ m 77 (2 + 5 * j + 3) = d) then 1 * 2 ^ j.toNat else 0)) (fun (j : Int) (x : Int) => 0 ≤ x) (m 77 0) (0) (0) (by omega) (by omega) (fun j x hj0 hj hi => io_nn _ _) (fun j x hj0 hj hi hk => ?_) (fun hi => ?_)
          · skip
            refine x_iload (i := 20) (pc' := 44) rfl rfl rfl ?_
            refine x_aload_n (i := 21) (pc' := 45) rfl rfl rfl rfl ?_
            refine m_getf (i := 22) (pc' := 48) rfl rfl flX12_7 (sh76 G) rfl rfl ?_
            refine x_iconst (i := 23) (pc' := 49) rfl rfl ?_
            refine m_iald (i := 24) (pc' := 50) rfl rfl (sh77 G) (by decide) ⟨by first | omega | (exact Int.mul_nonneg (by omega) (Int.le_of_lt (Int.pow_pos (by omega)))), by first | omega | (exact Int.mul_nonneg (by omega) (Int.le_of_lt (Int.pow_pos (by omega))))⟩ ?_
            refine x_icmpge (i := 25) (pc' := 53) (tgt := 117) rfl rfl (by decide) (by (repeat' split) <;> omega) (by (repeat' split) <;> omega) (fun e1 => by exfalso; omega) (fun e1 => ?_)
            refine x_iload (i := 26) (pc' := 55) rfl rfl rfl ?_
            refine x_aload_n (i := 27) (pc' := 56) rfl rfl rfl rfl ?_
            refine x_iload (i := 28) (pc' := 58) rfl rfl rfl ?_
            refine x_iconst (i := 29) (pc' := 59) rfl rfl ?_
            refine x_iload_n (i := 30) (pc' := 60) rfl rfl rfl rfl ?_
            refine m_callV (i := 31) (pc' := 63) (av := [_, _, _]) (rest := [_]) rfl rfl (by decide) lX12_142 (sh76 G) rfl rfl rfl rfl rfl (Nat.le_of_ble_eq_true rfl) (Nat.le_refl _) (Nat.le_refl _) (s_X12_isSo hM (by omega) (by omega) (by omega) ?_)
            dsimp only [psh]
            refine x_ifeq (i := 32) (pc' := 66) (tgt := 107) rfl rfl (by decide) (by (repeat' split) <;> omega) (fun e2 => ?_) (fun e2 => ?_)
            · skip
              refine x_iconst (i := 55) (pc' := 108) rfl rfl ?_
              refine x_ior (i := 56) (pc' := 109) rfl rfl (by first | omega | (exact Int.mul_nonneg (by omega) (Int.le_of_lt (Int.pow_pos (by omega))))) (by first | omega | (exact Int.mul_nonneg (by omega) (Int.le_of_lt (Int.pow_pos (by omega))))) ?_
              refine x_istore (L' := [some _, some _, some _, some _, some _, some _, some _]) (i := 57) (pc' := 111) rfl rfl rfl (by decide) rfl ?_
              refine x_iinc (L' := [some _, some _, some _, some _, some _, some _, some _]) (i := 58) (pc' := 114) rfl rfl rfl rfl (by decide) rfl ?_
              refine x_goto (i := 59) (pc' := 42) rfl (by decide) ?_
              ((repeat' split at hk) <;> (repeat' split at *) <;> first | (exfalso; omega; done) | exact hk)
            · skip
              refine x_aload_n (i := 33) (pc' := 67) rfl rfl rfl rfl ?_
              refine x_iload (i := 34) (pc' := 69) rfl rfl rfl ?_
              refine x_iconst (i := 35) (pc' := 70) rfl rfl ?_
              refine x_iload_n (i := 36) (pc' := 71) rfl rfl rfl rfl ?_
              refine m_callV (i := 37) (pc' := 74) (av := [_, _, _]) (rest := [_]) rfl rfl (by decide) lX12_142 (sh76 G) rfl rfl rfl rfl rfl (Nat.le_of_ble_eq_true rfl) (Nat.le_refl _) (Nat.le_refl _) (s_X12_isSo hM (by omega) (by omega) (by omega) ?_)
              dsimp only [psh]
              refine x_ifeq (i := 38) (pc' := 77) (tgt := 107) rfl rfl (by decide) (by (repeat' split) <;> omega) (fun e3 => ?_) (fun e3 => ?_)
              · skip
                refine x_iconst (i := 55) (pc' := 108) rfl rfl ?_
                refine x_ior (i := 56) (pc' := 109) rfl rfl (by first | omega | (exact Int.mul_nonneg (by omega) (Int.le_of_lt (Int.pow_pos (by omega))))) (by first | omega | (exact Int.mul_nonneg (by omega) (Int.le_of_lt (Int.pow_pos (by omega))))) ?_
                refine x_istore (L' := [some _, some _, some _, some _, some _, some _, some _]) (i := 57) (pc' := 111) rfl rfl rfl (by decide) rfl ?_
                refine x_iinc (L' := [some _, some _, some _, some _, some _, some _, some _]) (i := 58) (pc' := 114) rfl rfl rfl rfl (by decide) rfl ?_
                refine x_goto (i := 59) (pc' := 42) rfl (by decide) ?_
                ((repeat' split at hk) <;> (repeat' split at *) <;> first | (exfalso; omega; done) | exact hk)
              · skip
                refine x_aload_n (i := 39) (pc' := 78) rfl rfl rfl rfl ?_
                refine x_iload (i := 40) (pc' := 80) rfl rfl rfl ?_
                refine x_iconst (i := 41) (pc' := 81) rfl rfl ?_
                refine x_iload_n (i := 42) (pc' := 82) rfl rfl rfl rfl ?_
                refine m_callV (i := 43) (pc' := 85) (av := [_, _, _]) (rest := [_]) rfl rfl (by decide) lX12_142 (sh76 G) rfl rfl rfl rfl rfl (Nat.le_of_ble_eq_true rfl) (Nat.le_refl _) (Nat.le_refl _) (s_X12_isSo hM (by omega) (by omega) (by omega) ?_)
                dsimp only [psh]
                refine x_ifeq (i := 44) (pc' := 88) (tgt := 107) rfl rfl (by decide) (by (repeat' split) <;> omega) (fun e4 => ?_) (fun e4 => ?_)
                · skip
                  refine x_iconst (i := 55) (pc' := 108) rfl rfl ?_
                  refine x_ior (i := 56) (pc' := 109) rfl rfl (by first | omega | (exact Int.mul_nonneg (by omega) (Int.le_of_lt (Int.pow_pos (by omega))))) (by first | omega | (exact Int.mul_nonneg (by omega) (Int.le_of_lt (Int.pow_pos (by omega))))) ?_
                  refine x_istore (L' := [some _, some _, some _, some _, some _, some _, some _]) (i := 57) (pc' := 111) rfl rfl rfl (by decide) rfl ?_
                  refine x_iinc (L' := [some _, some _, some _, some _, some _, some _, some _]) (i := 58) (pc' := 114) rfl rfl rfl rfl (by decide) rfl ?_
                  refine x_goto (i := 59) (pc' := 42) rfl (by decide) ?_
                  ((repeat' split at hk) <;> (repeat' split at *) <;> first | (exfalso; omega; done) | exact hk)
                · skip
                  refine x_aload_n (i := 45) (pc' := 89) rfl rfl rfl rfl ?_
                  refine x_iload (i := 46) (pc' := 91) rfl rfl rfl ?_
                  refine x_iconst (i := 47) (pc' := 92) rfl rfl ?_
                  refine x_iload (i := 48) (pc' := 94) rfl rfl rfl ?_
                  refine m_callV (i := 49) (pc' := 97) (av := [_, _, _]) (rest := [_]) rfl rfl (by decide) lX12_142 (sh76 G) rfl rfl rfl rfl rfl (Nat.le_of_ble_eq_true rfl) (Nat.le_refl _) (Nat.le_refl _) (s_X12_isSo hM (by omega) (by omega) (by omega) ?_)
                  dsimp only [psh]
                  refine x_ifeq (i := 50) (pc' := 100) (tgt := 107) rfl rfl (by decide) (by (repeat' split) <;> omega) (fun e5 => ?_) (fun e5 => ?_)
                  · skip
                    refine x_iconst (i := 55) (pc' := 108) rfl rfl ?_
                    refine x_ior (i := 56) (pc' := 109) rfl rfl (by first | omega | (exact Int.mul_nonneg (by omega) (Int.le_of_lt (Int.pow_pos (by omega))))) (by first | omega | (exact Int.mul_nonneg (by omega) (Int.le_of_lt (Int.pow_pos (by omega))))) ?_
                    refine x_istore (L' := [some _, some _, some _, some _, some _, some _, some _]) (i := 57) (pc' := 111) rfl rfl rfl (by decide) rfl ?_
                    refine x_iinc (L' := [some _, some _, some _, some _, some _, some _, some _]) (i := 58) (pc' := 114) rfl rfl rfl rfl (by decide) rfl ?_
                    refine x_goto (i := 59) (pc' := 42) rfl (by decide) ?_
                    ((repeat' split at hk) <;> (repeat' split at *) <;> first | (exfalso; omega; done) | exact hk)
                  · skip
                    refine x_iconst (i := 51) (pc' := 101) rfl rfl ?_
                    refine x_iload (i := 52) (pc' := 103) rfl rfl rfl ?_
                    refine x_ishl (i := 53) (pc' := 104) rfl rfl (by first | omega | (exact Int.mul_nonneg (by omega) (Int.le_of_lt (Int.pow_pos (by omega))))) (by first | omega | (exact Int.mul_nonneg (by omega) (Int.le_of_lt (Int.pow_pos (by omega))))) ?_
                    refine x_goto (i := 54) (pc' := 108) rfl (by decide) ?_
                    refine x_ior (i := 56) (pc' := 109) rfl rfl (by first | omega | (exact Int.mul_nonneg (by omega) (Int.le_of_lt (Int.pow_pos (by omega))))) (by first | omega | (exact Int.mul_nonneg (by omega) (Int.le_of_lt (Int.pow_pos (by omega))))) ?_
                    refine x_istore (L' := [some _, some _, some _, some _, some _, some _, some _]) (i := 57) (pc' := 111) rfl rfl rfl (by decide) rfl ?_
                    refine x_iinc (L' := [some _, some _, some _, some _, some _, some _, some _]) (i := 58) (pc' := 114) rfl rfl rfl rfl (by decide) rfl ?_
                    refine x_goto (i := 59) (pc' := 42) rfl (by decide) ?_
                    ((repeat' split at hk) <;> (repeat' split at *) <;> first | (exfalso; omega; done) | exact hk)
          · skip
            refine x_iload (i := 20) (pc' := 44) rfl rfl rfl ?_
            refine x_aload_n (i := 21) (pc' := 45) rfl rfl rfl rfl ?_
            refine m_getf (i := 22) (pc' := 48) rfl rfl flX12_7 (sh76 G) rfl rfl ?_
            refine x_iconst (i := 23) (pc' := 49) rfl rfl ?_
            refine m_iald (i := 24) (pc' := 50) rfl rfl (sh77 G) (by decide) ⟨by omega, by omega⟩ ?_
            refine x_icmpge (i := 25) (pc' := 53) (tgt := 117) rfl rfl (by decide) ⟨by omega, by omega⟩ ⟨by omega, by omega⟩ (fun f1 => ?_) (fun f1 => by exfalso; omega)
            refine x_iload (i := 60) (pc' := 119) rfl rfl rfl ?_
            exact m_ireturn (i := 61) rfl rfl (by rw [Int.sub_zero]; exact hQ)
        · skip
          refine x_aload_n (i := 12) (pc' := 30) rfl rfl rfl rfl ?_
          refine x_bipush (i := 13) (pc' := 32) rfl rfl (by decide) ?_
          refine m_callV (i := 14) (pc' := 35) (av := [_]) (rest := []) rfl rfl (by decide) lX12_69 (sh76 G) rfl rfl rfl rfl rfl (Nat.le_of_ble_eq_true rfl) (Nat.le_refl _) (Nat.le_refl _) (s_X12_refuses (by omega) ?_)
          dsimp only [psh]
          exact m_ireturn (i := 15) rfl rfl (by (repeat' split at hQ) <;> (repeat' split at *) <;> first | exact hQ | (exfalso; omega))
theorem s_X12_nearest {G : GG} {m : Mem} {Q : Option Value → Mem → Prop} {a b c d : Int} (h : GM m) (ra : rg a) (rb : rg b) (rc : rg c) (rd : rg d) (hQ : Q (some (.int (J (if (0 ≤ a ∧ a ≤ 7) ∧ (0 ≤ b ∧ b ≤ 7) ∧ (0 ≤ c ∧ c ≤ 7) ∧ (0 ≤ d ∧ d ≤ 7) then (nst m a b c d) else -2)))) (if (0 ≤ a ∧ a ≤ 7) ∧ (0 ≤ b ∧ b ≤ 7) ∧ (0 ≤ c ∧ c ≤ 7) ∧ (0 ≤ d ∧ d ≤ 7) then m else rfm m (-2))) : CM G 3 mX12_nearest [.ref (G.2.2.2 76), .int (J (a)), .int (J (b)), .int (J (c)), .int (J (d))] m Q := by
  refine CM.of dkX12_nearest (Or.inl rfl) [some _, some _, some _, some _, some _, none, none] rfl (Nat.le_of_ble_eq_true rfl) ?_
  obtain ⟨hM, ⟨hn, hc, hv, hst, hw, hwd, hpo⟩, hst5, hle, her⟩ := h
  have hn0 := hn.1; have hn1 := hn.2; have hc0 := hc.1; have hc1 := hc.2
  refine x_iload_n (i := 0) (pc' := 1) rfl rfl rfl rfl ?_
  refine x_iload_n (i := 1) (pc' := 2) rfl rfl rfl rfl ?_
  refine x_iload_n (i := 2) (pc' := 3) rfl rfl rfl rfl ?_
  refine x_iload (i := 3) (pc' := 5) rfl rfl rfl ?_
  refine m_callS (i := 4) (pc' := 8) (av := [_, _, _, _]) (rest := []) rfl rfl (by decide) lX12_56 rfl rfl (Nat.le_of_ble_eq_true rfl) (Nat.le_refl _) (Nat.le_refl _) (s_X12_areParts ra rb rc rd ?_)
  dsimp only [psh]
  refine x_ifne (i := 5) (pc' := 11) (tgt := 18) rfl rfl (by decide) (by (repeat' split at *) <;> omega) (fun c1 => ?_) (fun c1 => ?_)
  · skip
    refine x_iconst (i := 10) (pc' := 19) rfl rfl ?_
    refine x_istore (L' := [some _, some _, some _, some _, some _, some _, none]) (i := 11) (pc' := 21) rfl rfl rfl (by decide) rfl ?_
    refine x_iconst (i := 12) (pc' := 22) rfl rfl ?_
    refine x_istore (L' := [some _, some _, some _, some _, some _, some _, some _]) (i := 13) (pc' := 24) rfl rfl rfl (by decide) rfl ?_
    have hcc : (0 ≤ a ∧ a ≤ 7) ∧ (0 ≤ b ∧ b ≤ 7) ∧ (0 ≤ c ∧ c ≤ 7) ∧ (0 ≤ d ∧ d ≤ 7) := (by (repeat' split at *) <;> omega)
    rw [if_pos hcc, if_pos hcc] at hQ
    refine up_ind1 (P := fun (j : Int) (x : Int) => BW G 3 mX12_nearest Q 24 [some (.ref (G.2.2.2 76)), some (.int (J (a))), some (.int (J (b))), some (.int (J (c))), some (.int (J (d))), some (.int (J (x))), some (.int (J (j)))] [] m) (fun (j : Int) (x : Int) => if x = -1 ∨ ao m j a b c d < ao m x a b c d then j else x) (fun (j : Int) (x : Int) => -1 ≤ x ∧ x < j ∨ x = -1) (m 77 0) (0) (-1) (by omega) (by omega) (fun j x hj0 hj hi => by split <;> omega) (fun j x hj0 hj hi hk => ?_) (fun hi => ?_)
    · have hvj := hv j (by omega) (by omega)
      have h1 := ao_le hvj hw hcc.1 hcc.2.1 hcc.2.2.1 hcc.2.2.2
      refine x_iload (i := 14) (pc' := 26) rfl rfl rfl ?_
      refine x_aload_n (i := 15) (pc' := 27) rfl rfl rfl rfl ?_
      refine m_getf (i := 16) (pc' := 30) rfl rfl flX12_7 (sh76 G) rfl rfl ?_
      refine x_iconst (i := 17) (pc' := 31) rfl rfl ?_
      refine m_iald (i := 18) (pc' := 32) rfl rfl (sh77 G) (by decide) ⟨by omega, by omega⟩ ?_
      refine x_icmpge (i := 19) (pc' := 35) (tgt := 81) rfl rfl (by decide) (by first | omega | (have := ao_le (hv x (by omega) (by omega)) hw hcc.1 hcc.2.1 hcc.2.2.1 hcc.2.2.2; omega)) (by first | omega | (have := ao_le (hv x (by omega) (by omega)) hw hcc.1 hcc.2.1 hcc.2.2.1 hcc.2.2.2; omega)) (fun e1 => by exfalso; omega) (fun e1 => ?_)
      refine x_iload (i := 20) (pc' := 37) rfl rfl rfl ?_
      refine x_iconst (i := 21) (pc' := 38) rfl rfl ?_
      refine x_icmpeq (i := 22) (pc' := 41) (tgt := 66) rfl rfl (by decide) (by first | omega | (have := ao_le (hv x (by omega) (by omega)) hw hcc.1 hcc.2.1 hcc.2.2.1 hcc.2.2.2; omega)) (by first | omega | (have := ao_le (hv x (by omega) (by omega)) hw hcc.1 hcc.2.1 hcc.2.2.1 hcc.2.2.2; omega)) (fun e2 => ?_) (fun e2 => ?_)
      · skip
        refine x_iload (i := 38) (pc' := 68) rfl rfl rfl ?_
        refine x_goto (i := 39) (pc' := 73) rfl (by decide) ?_
        refine x_istore (L' := [some _, some _, some _, some _, some _, some _, some _]) (i := 41) (pc' := 75) rfl rfl rfl (by decide) rfl ?_
        refine x_iinc (L' := [some _, some _, some _, some _, some _, some _, some _]) (i := 42) (pc' := 78) rfl rfl rfl rfl (by decide) rfl ?_
        refine x_goto (i := 43) (pc' := 24) rfl (by decide) ?_
        (first | exact hk | (refine AW.le ?_ hk; simp [lvle]; done) | ((repeat' split at hk) <;> first | exact hk | (refine AW.le ?_ hk; simp [lvle]; done) | (exfalso; omega)))
      · skip
        refine x_aload_n (i := 23) (pc' := 42) rfl rfl rfl rfl ?_
        refine x_iload (i := 24) (pc' := 44) rfl rfl rfl ?_
        refine x_iload_n (i := 25) (pc' := 45) rfl rfl rfl rfl ?_
        refine x_iload_n (i := 26) (pc' := 46) rfl rfl rfl rfl ?_
        refine x_iload_n (i := 27) (pc' := 47) rfl rfl rfl rfl ?_
        refine x_iload (i := 28) (pc' := 49) rfl rfl rfl ?_
        refine m_callV (i := 29) (pc' := 52) (av := [_, _, _, _, _]) (rest := []) rfl rfl (by decide) lX12_131 (sh76 G) rfl rfl rfl rfl rfl (Nat.le_of_ble_eq_true rfl) (Nat.le_refl _) (Nat.le_refl _) (s_X12_apartOf (by omega) hvj hcc.1 hcc.2.1 hcc.2.2.1 hcc.2.2.2 ?_)
        dsimp only [psh]
        refine x_aload_n (i := 30) (pc' := 53) rfl rfl rfl rfl ?_
        refine x_iload (i := 31) (pc' := 55) rfl rfl rfl ?_
        refine x_iload_n (i := 32) (pc' := 56) rfl rfl rfl rfl ?_
        refine x_iload_n (i := 33) (pc' := 57) rfl rfl rfl rfl ?_
        refine x_iload_n (i := 34) (pc' := 58) rfl rfl rfl rfl ?_
        refine x_iload (i := 35) (pc' := 60) rfl rfl rfl ?_
        refine m_callV (i := 36) (pc' := 63) (av := [_, _, _, _, _]) (rest := [_]) rfl rfl (by decide) lX12_131 (sh76 G) rfl rfl rfl rfl rfl (Nat.le_of_ble_eq_true rfl) (Nat.le_refl _) (Nat.le_refl _) (s_X12_apartOf (by omega) (hv x (by omega) (by omega)) hcc.1 hcc.2.1 hcc.2.2.1 hcc.2.2.2 ?_)
        dsimp only [psh]
        refine x_icmpge (i := 37) (pc' := 66) (tgt := 71) rfl rfl (by decide) (by first | omega | (have := ao_le (hv x (by omega) (by omega)) hw hcc.1 hcc.2.1 hcc.2.2.1 hcc.2.2.2; omega)) (by first | omega | (have := ao_le (hv x (by omega) (by omega)) hw hcc.1 hcc.2.1 hcc.2.2.1 hcc.2.2.2; omega)) (fun e3 => ?_) (fun e3 => ?_)
        · skip
          refine x_iload (i := 40) (pc' := 73) rfl rfl rfl ?_
          refine x_istore (L' := [some _, some _, some _, some _, some _, some _, some _]) (i := 41) (pc' := 75) rfl rfl rfl (by decide) rfl ?_
          refine x_iinc (L' := [some _, some _, some _, some _, some _, some _, some _]) (i := 42) (pc' := 78) rfl rfl rfl rfl (by decide) rfl ?_
          refine x_goto (i := 43) (pc' := 24) rfl (by decide) ?_
          (first | exact hk | (refine AW.le ?_ hk; simp [lvle]; done) | ((repeat' split at hk) <;> first | exact hk | (refine AW.le ?_ hk; simp [lvle]; done) | (exfalso; omega)))
        · skip
          refine x_iload (i := 38) (pc' := 68) rfl rfl rfl ?_
          refine x_goto (i := 39) (pc' := 73) rfl (by decide) ?_
          refine x_istore (L' := [some _, some _, some _, some _, some _, some _, some _]) (i := 41) (pc' := 75) rfl rfl rfl (by decide) rfl ?_
          refine x_iinc (L' := [some _, some _, some _, some _, some _, some _, some _]) (i := 42) (pc' := 78) rfl rfl rfl rfl (by decide) rfl ?_
          refine x_goto (i := 43) (pc' := 24) rfl (by decide) ?_
          (first | exact hk | (refine AW.le ?_ hk; simp [lvle]; done) | ((repeat' split at hk) <;> first | exact hk | (refine AW.le ?_ hk; simp [lvle]; done) | (exfalso; omega)))
    · skip
      refine x_iload (i := 14) (pc' := 26) rfl rfl rfl ?_
      refine x_aload_n (i := 15) (pc' := 27) rfl rfl rfl rfl ?_
      refine m_getf (i := 16) (pc' := 30) rfl rfl flX12_7 (sh76 G) rfl rfl ?_
      refine x_iconst (i := 17) (pc' := 31) rfl rfl ?_
      refine m_iald (i := 18) (pc' := 32) rfl rfl (sh77 G) (by decide) ⟨by omega, by omega⟩ ?_
      refine x_icmpge (i := 19) (pc' := 35) (tgt := 81) rfl rfl (by decide) ⟨by omega, by omega⟩ ⟨by omega, by omega⟩ (fun f1 => ?_) (fun f1 => by exfalso; omega)
      refine x_iload (i := 44) (pc' := 83) rfl rfl rfl ?_
      exact m_ireturn (i := 45) rfl rfl (by rw [Int.sub_zero]; exact hQ)
  · skip
    refine x_aload_n (i := 6) (pc' := 12) rfl rfl rfl rfl ?_
    refine x_bipush (i := 7) (pc' := 14) rfl rfl (by decide) ?_
    refine m_callV (i := 8) (pc' := 17) (av := [_]) (rest := []) rfl rfl (by decide) lX12_69 (sh76 G) rfl rfl rfl rfl rfl (Nat.le_of_ble_eq_true rfl) (Nat.le_refl _) (Nat.le_refl _) (s_X12_refuses (by omega) ?_)
    dsimp only [psh]
    exact m_ireturn (i := 9) rfl rfl (by (repeat' split at hQ) <;> (repeat' split at *) <;> first | exact hQ | (exfalso; omega))
def unl (m : Mem) (j k : Int) : Int := it (fun w x => io x (if m 77 (2 + 5 * j + w) = m 77 (2 + 5 * k + w) then 0 else 1 * 2 ^ w.toNat)) 0 4 0
theorem unl_le (m : Mem) (j k : Int) : 0 ≤ unl m j k ∧ unl m j k < 16 := by
  refine it_I (I := fun x : Int => 0 ≤ x ∧ x < 16) _ _ _ (fun i y a b hy => ?_) (by decide)
  have hp := pw3 (j := i) (by omega)
  exact ⟨io_nn _ _, io_lt 4 hy (by split <;> omega)⟩
def twr (m : Mem) (a j k x : Int) : Int := x + (if ons (unl m j k) = 1 ∧ (a = -1 ∨ ia (unl m j k / 2 ^ a.toNat) 1 = 1) then 1 else 0)
def tww (m : Mem) (a j x : Int) : Int := it (fun k x => twr m a j k x) 0 j.toNat x
def twn (m : Mem) (a : Int) : Int := it (fun j x => tww m a j x) 0 (m 77 0).toNat 0
def enr (m : Mem) (s j k x : Int) : Int := if ¬ x = 0 ∧ ¬ ia (unl m j k) s = 0 then 1 else 0
def enw (m : Mem) (s j x : Int) : Int := it (fun k x => enr m s j k x) 0 j.toNat x
def eno (m : Mem) (s : Int) : Int := it (fun j x => enw m s j x) 0 (m 77 0).toNat 1
theorem eno_01 (m : Mem) (s : Int) : eno m s = 0 ∨ eno m s = 1 := by
  refine it_I (I := fun x : Int => x = 0 ∨ x = 1) _ _ _ (fun i y _ _ hy => it_I (I := fun x : Int => x = 0 ∨ x = 1) _ _ _ (fun k z _ _ hz => ?_) hy) (Or.inr rfl)
  unfold enr
  split
  · exact Or.inr rfl
  · exact Or.inl rfl
def lnf (m : Mem) : Int := it (fun j x => if ¬ eno m (15 - j) = 0 ∧ ons (15 - j) ≤ ons x then 15 - j else x) 0 16 15
theorem s_X12_unlike {G : GG} {m : Mem} {Q : Option Value → Mem → Prop} {a b : Int} (hM : MR m) (ha : 0 ≤ a ∧ a ≤ 15) (hb : 0 ≤ b ∧ b ≤ 15) (hQ : Q (some (.int (J (unl m a b)))) m) : CM G 1 mX12_unlike [.ref (G.2.2.2 76), .int (J (a)), .int (J (b))] m Q := by
  refine CM.of dkX12_unlike (Or.inl rfl) [some _, some _, some _, none, none] rfl (Nat.le_of_ble_eq_true rfl) ?_
  refine x_iconst (i := 0) (pc' := 1) rfl rfl ?_
  refine x_istore_n (L' := [some _, some _, some _, some _, none]) (i := 1) (pc' := 2) rfl rfl rfl rfl (by decide) rfl ?_
  refine x_iconst (i := 2) (pc' := 3) rfl rfl ?_
  refine x_istore (L' := [some _, some _, some _, some _, some _]) (i := 3) (pc' := 5) rfl rfl rfl (by decide) rfl ?_
  skip
  refine up_ind1 (P := fun (j : Int) (x : Int) => BW G 1 mX12_unlike Q 5 [some (.ref (G.2.2.2 76)), some (.int (J (a))), some (.int (J (b))), some (.int (J (x))), some (.int (J (j)))] [] m) (fun (j : Int) (x : Int) => io x (if m 77 (2 + 5 * a + j) = m 77 (2 + 5 * b + j) then 0 else 1 * 2 ^ j.toNat)) (fun (j : Int) (x : Int) => 0 ≤ x) (4) (0) (0) (by omega) (by omega) (fun j x hj0 hj hi => io_nn _ _) (fun j x hj0 hj hi hk => ?_) (fun hi => ?_)
  · skip
    refine x_iload (i := 4) (pc' := 7) rfl rfl rfl ?_
    refine x_iconst (i := 5) (pc' := 8) rfl rfl ?_
    refine x_icmpge (i := 6) (pc' := 11) (tgt := 45) rfl rfl (by decide) (by first | omega | exact hM _ _) (by first | omega | exact hM _ _) (fun c1 => by exfalso; omega) (fun c1 => ?_)
    refine x_iload_n (i := 7) (pc' := 12) rfl rfl rfl rfl ?_
    refine x_aload_n (i := 8) (pc' := 13) rfl rfl rfl rfl ?_
    refine x_iload_n (i := 9) (pc' := 14) rfl rfl rfl rfl ?_
    refine x_iload (i := 10) (pc' := 16) rfl rfl rfl ?_
    refine m_callV (i := 11) (pc' := 19) (av := [_, _]) (rest := [_]) rfl rfl (by decide) lX12_52 (sh76 G) rfl rfl rfl rfl rfl (Nat.le_of_ble_eq_true rfl) (Nat.le_refl _) (Nat.le_refl _) (s_X12_part (by omega) (by omega) ?_)
    dsimp only [psh]
    refine x_aload_n (i := 12) (pc' := 20) rfl rfl rfl rfl ?_
    refine x_iload_n (i := 13) (pc' := 21) rfl rfl rfl rfl ?_
    refine x_iload (i := 14) (pc' := 23) rfl rfl rfl ?_
    refine m_callV (i := 15) (pc' := 26) (av := [_, _]) (rest := [_, _]) rfl rfl (by decide) lX12_52 (sh76 G) rfl rfl rfl rfl rfl (Nat.le_of_ble_eq_true rfl) (Nat.le_refl _) (Nat.le_refl _) (s_X12_part (by omega) (by omega) ?_)
    dsimp only [psh]
    refine x_icmpeq (i := 16) (pc' := 29) (tgt := 36) rfl rfl (by decide) (by first | omega | exact hM _ _) (by first | omega | exact hM _ _) (fun c2 => ?_) (fun c2 => ?_)
    · skip
      refine x_iconst (i := 21) (pc' := 37) rfl rfl ?_
      refine x_ior (i := 22) (pc' := 38) rfl rfl (by first | omega | (exact Int.mul_nonneg (by omega) (Int.le_of_lt (Int.pow_pos (by omega))))) (by first | omega | (exact Int.mul_nonneg (by omega) (Int.le_of_lt (Int.pow_pos (by omega))))) ?_
      refine x_istore_n (L' := [some _, some _, some _, some _, some _]) (i := 23) (pc' := 39) rfl rfl rfl rfl (by decide) rfl ?_
      refine x_iinc (L' := [some _, some _, some _, some _, some _]) (i := 24) (pc' := 42) rfl rfl rfl rfl (by decide) rfl ?_
      refine x_goto (i := 25) (pc' := 5) rfl (by decide) ?_
      (first | exact hk | (refine AW.le ?_ hk; simp [lvle]; done) | ((repeat' split at hk) <;> first | exact hk | (refine AW.le ?_ hk; simp [lvle]; done) | (exfalso; omega)))
    · skip
      refine x_iconst (i := 17) (pc' := 30) rfl rfl ?_
      refine x_iload (i := 18) (pc' := 32) rfl rfl rfl ?_
      refine x_ishl (i := 19) (pc' := 33) rfl rfl (by first | omega | (exact Int.mul_nonneg (by omega) (Int.le_of_lt (Int.pow_pos (by omega))))) (by first | omega | (exact Int.mul_nonneg (by omega) (Int.le_of_lt (Int.pow_pos (by omega))))) ?_
      refine x_goto (i := 20) (pc' := 37) rfl (by decide) ?_
      refine x_ior (i := 22) (pc' := 38) rfl rfl (by first | omega | (exact Int.mul_nonneg (by omega) (Int.le_of_lt (Int.pow_pos (by omega))))) (by first | omega | (exact Int.mul_nonneg (by omega) (Int.le_of_lt (Int.pow_pos (by omega))))) ?_
      refine x_istore_n (L' := [some _, some _, some _, some _, some _]) (i := 23) (pc' := 39) rfl rfl rfl rfl (by decide) rfl ?_
      refine x_iinc (L' := [some _, some _, some _, some _, some _]) (i := 24) (pc' := 42) rfl rfl rfl rfl (by decide) rfl ?_
      refine x_goto (i := 25) (pc' := 5) rfl (by decide) ?_
      (first | exact hk | (refine AW.le ?_ hk; simp [lvle]; done) | ((repeat' split at hk) <;> first | exact hk | (refine AW.le ?_ hk; simp [lvle]; done) | (exfalso; omega)))
  · skip
    refine x_iload (i := 4) (pc' := 7) rfl rfl rfl ?_
    refine x_iconst (i := 5) (pc' := 8) rfl rfl ?_
    refine x_icmpge (i := 6) (pc' := 11) (tgt := 45) rfl rfl (by decide) ⟨by omega, by omega⟩ ⟨by omega, by omega⟩ (fun c1 => ?_) (fun c1 => by exfalso; omega)
    refine x_iload_n (i := 26) (pc' := 46) rfl rfl rfl rfl ?_
    exact m_ireturn (i := 27) rfl rfl (hQ)
theorem s_X12_twinsBy {G : GG} {m : Mem} {Q : Option Value → Mem → Prop} {a : Int} (hM : MR m) (hn : NM m) (ha : -1 ≤ a ∧ a ≤ 3) (hQ : Q (some (.int (J (twn m a)))) m) : CM G 2 mX12_twinsBy [.ref (G.2.2.2 76), .int (J (a))] m Q := by
  refine CM.of dkX12_twinsBy (Or.inl rfl) [some _, some _, none, none, none, none] rfl (Nat.le_of_ble_eq_true rfl) ?_
  have hn0 := hn.1; have hn1 := hn.2
  refine x_iconst (i := 0) (pc' := 1) rfl rfl ?_
  refine x_istore_n (L' := [some _, some _, some _, none, none, none]) (i := 1) (pc' := 2) rfl rfl rfl rfl (by decide) rfl ?_
  refine x_iconst (i := 2) (pc' := 3) rfl rfl ?_
  refine x_istore_n (L' := [some _, some _, some _, some _, none, none]) (i := 3) (pc' := 4) rfl rfl rfl rfl (by decide) rfl ?_
  skip
  refine up_ind0 (P := fun (j : Int) (x : Int) => BW G 2 mX12_twinsBy Q 4 [some (.ref (G.2.2.2 76)), some (.int (J (a))), some (.int (J (x))), some (.int (J (j))), none, none] [] m) (fun (j : Int) (x : Int) => tww m a j x) (m 77 0) (0) (0) (by omega) (fun j x hj0 hj hk => ?_) ?_
  · skip
    refine x_iload_n (i := 4) (pc' := 5) rfl rfl rfl rfl ?_
    refine x_aload_n (i := 5) (pc' := 6) rfl rfl rfl rfl ?_
    refine m_getf (i := 6) (pc' := 9) rfl rfl flX12_7 (sh76 G) rfl rfl ?_
    refine x_iconst (i := 7) (pc' := 10) rfl rfl ?_
    refine m_iald (i := 8) (pc' := 11) rfl rfl (sh77 G) (by decide) ⟨by omega, by omega⟩ ?_
    refine x_icmpge (i := 9) (pc' := 14) (tgt := 75) rfl rfl (by decide) ⟨by omega, by omega⟩ ⟨by omega, by omega⟩ (fun c1 => by exfalso; omega) (fun c1 => ?_)
    refine x_iconst (i := 10) (pc' := 15) rfl rfl ?_
    refine x_istore (L' := [some _, some _, some _, some _, some _, none]) (i := 11) (pc' := 17) rfl rfl rfl (by decide) rfl ?_
    refine up_ind0 (P := fun (k : Int) (y : Int) => BW G 2 mX12_twinsBy Q 17 [some (.ref (G.2.2.2 76)), some (.int (J (a))), some (.int (J (y))), some (.int (J (j))), some (.int (J (k))), none] [] m) (fun (k : Int) (y : Int) => twr m a j k y) (j) (0) (x) (by omega) (fun k y hj02 hj2 hk2 => ?_) ?_
    · have hu := unl_le m j k; have ho := ons_le (unl m j k)
      have hia := ia_le (unl m j k / 2 ^ a.toNat) 1
      refine x_iload (i := 12) (pc' := 19) rfl rfl rfl ?_
      refine x_iload_n (i := 13) (pc' := 20) rfl rfl rfl rfl ?_
      refine x_icmpge (i := 14) (pc' := 23) (tgt := 69) rfl rfl (by decide) (by (repeat' split) <;> omega) (by (repeat' split) <;> omega) (fun e1 => by exfalso; omega) (fun e1 => ?_)
      refine x_aload_n (i := 15) (pc' := 24) rfl rfl rfl rfl ?_
      refine x_iload_n (i := 16) (pc' := 25) rfl rfl rfl rfl ?_
      refine x_iload (i := 17) (pc' := 27) rfl rfl rfl ?_
      refine m_callV (i := 18) (pc' := 30) (av := [_, _]) (rest := []) rfl rfl (by decide) lX12_157 (sh76 G) rfl rfl rfl rfl rfl (Nat.le_of_ble_eq_true rfl) (Nat.le_refl _) (Nat.le_refl _) (s_X12_unlike hM (by omega) (by omega) ?_)
      dsimp only [psh]
      refine x_istore (L' := [some _, some _, some _, some _, some _, some _]) (i := 19) (pc' := 32) rfl rfl rfl (by decide) rfl ?_
      refine x_iload_n (i := 20) (pc' := 33) rfl rfl rfl rfl ?_
      refine x_iload (i := 21) (pc' := 35) rfl rfl rfl ?_
      refine m_callS (i := 22) (pc' := 38) (av := [_]) (rest := [_]) rfl rfl (by decide) lX12_121 rfl rfl (Nat.le_of_ble_eq_true rfl) (Nat.le_refl _) (Nat.le_refl _) (s_X12_ones (by omega) ?_)
      dsimp only [psh]
      refine x_iconst (i := 23) (pc' := 39) rfl rfl ?_
      refine x_icmpne (i := 24) (pc' := 42) (tgt := 60) rfl rfl (by decide) (by (repeat' split) <;> omega) (by (repeat' split) <;> omega) (fun e2 => ?_) (fun e2 => ?_)
      · skip
        refine x_iconst (i := 34) (pc' := 61) rfl rfl ?_
        refine x_iadd (i := 35) (pc' := 62) rfl rfl ?_
        refine x_istore_n (L' := [some _, some _, some _, some _, some _, some _]) (i := 36) (pc' := 63) rfl rfl rfl rfl (by decide) rfl ?_
        refine x_iinc (L' := [some _, some _, some _, some _, some _, some _]) (i := 37) (pc' := 66) rfl rfl rfl rfl (by decide) rfl ?_
        refine x_goto (i := 38) (pc' := 17) rfl (by decide) ?_
        (unfold twr at hk2; (repeat' split at hk2) <;> (repeat' split at *) <;> first | (exfalso; omega; done) | (refine AW.le ?_ hk2; simp [lvle]; done))
      · skip
        refine x_iload_n (i := 25) (pc' := 43) rfl rfl rfl rfl ?_
        refine x_iconst (i := 26) (pc' := 44) rfl rfl ?_
        refine x_icmpeq (i := 27) (pc' := 47) (tgt := 56) rfl rfl (by decide) (by (repeat' split) <;> omega) (by (repeat' split) <;> omega) (fun e3 => ?_) (fun e3 => ?_)
        · skip
          refine x_iconst (i := 32) (pc' := 57) rfl rfl ?_
          refine x_goto (i := 33) (pc' := 61) rfl (by decide) ?_
          refine x_iadd (i := 35) (pc' := 62) rfl rfl ?_
          refine x_istore_n (L' := [some _, some _, some _, some _, some _, some _]) (i := 36) (pc' := 63) rfl rfl rfl rfl (by decide) rfl ?_
          refine x_iinc (L' := [some _, some _, some _, some _, some _, some _]) (i := 37) (pc' := 66) rfl rfl rfl rfl (by decide) rfl ?_
          refine x_goto (i := 38) (pc' := 17) rfl (by decide) ?_
          (unfold twr at hk2; (repeat' split at hk2) <;> (repeat' split at *) <;> first | (exfalso; omega; done) | (refine AW.le ?_ hk2; simp [lvle]; done))
        · skip
          refine x_iload (i := 28) (pc' := 49) rfl rfl rfl ?_
          refine x_iload_n (i := 29) (pc' := 50) rfl rfl rfl rfl ?_
          refine m_callS (i := 30) (pc' := 53) (av := [_, _]) (rest := [_]) rfl rfl (by decide) lX12_151 rfl rfl (Nat.le_of_ble_eq_true rfl) (Nat.le_refl _) (Nat.le_refl _) (s_X12_has (by omega) (by omega) ?_)
          dsimp only [psh]
          refine x_ifeq (i := 31) (pc' := 56) (tgt := 60) rfl rfl (by decide) (by (repeat' split) <;> omega) (fun e4 => ?_) (fun e4 => ?_)
          · skip
            refine x_iconst (i := 34) (pc' := 61) rfl rfl ?_
            refine x_iadd (i := 35) (pc' := 62) rfl rfl ?_
            refine x_istore_n (L' := [some _, some _, some _, some _, some _, some _]) (i := 36) (pc' := 63) rfl rfl rfl rfl (by decide) rfl ?_
            refine x_iinc (L' := [some _, some _, some _, some _, some _, some _]) (i := 37) (pc' := 66) rfl rfl rfl rfl (by decide) rfl ?_
            refine x_goto (i := 38) (pc' := 17) rfl (by decide) ?_
            (unfold twr at hk2; (repeat' split at hk2) <;> (repeat' split at *) <;> first | (exfalso; omega; done) | (refine AW.le ?_ hk2; simp [lvle]; done))
          · skip
            refine x_iconst (i := 32) (pc' := 57) rfl rfl ?_
            refine x_goto (i := 33) (pc' := 61) rfl (by decide) ?_
            refine x_iadd (i := 35) (pc' := 62) rfl rfl ?_
            refine x_istore_n (L' := [some _, some _, some _, some _, some _, some _]) (i := 36) (pc' := 63) rfl rfl rfl rfl (by decide) rfl ?_
            refine x_iinc (L' := [some _, some _, some _, some _, some _, some _]) (i := 37) (pc' := 66) rfl rfl rfl rfl (by decide) rfl ?_
            refine x_goto (i := 38) (pc' := 17) rfl (by decide) ?_
            (unfold twr at hk2; (repeat' split at hk2) <;> (repeat' split at *) <;> first | (exfalso; omega; done) | (refine AW.le ?_ hk2; simp [lvle]; done))
    · skip
      refine x_iload (i := 12) (pc' := 19) rfl rfl rfl ?_
      refine x_iload_n (i := 13) (pc' := 20) rfl rfl rfl rfl ?_
      refine x_icmpge (i := 14) (pc' := 23) (tgt := 69) rfl rfl (by decide) ⟨by omega, by omega⟩ ⟨by omega, by omega⟩ (fun f1 => ?_) (fun f1 => by exfalso; omega)
      refine x_iinc (L' := [some _, some _, some _, some _, some _, none]) (i := 39) (pc' := 72) rfl rfl rfl rfl (by decide) rfl ?_
      refine x_goto (i := 40) (pc' := 4) rfl (by decide) ?_
      (unfold tww at hk; first | exact hk | (refine AW.le ?_ hk; simp [lvle]; done) | ((repeat' split at hk) <;> first | exact hk | (refine AW.le ?_ hk; simp [lvle]; done) | (exfalso; omega)))
  · skip
    refine x_iload_n (i := 4) (pc' := 5) rfl rfl rfl rfl ?_
    refine x_aload_n (i := 5) (pc' := 6) rfl rfl rfl rfl ?_
    refine m_getf (i := 6) (pc' := 9) rfl rfl flX12_7 (sh76 G) rfl rfl ?_
    refine x_iconst (i := 7) (pc' := 10) rfl rfl ?_
    refine m_iald (i := 8) (pc' := 11) rfl rfl (sh77 G) (by decide) ⟨by omega, by omega⟩ ?_
    refine x_icmpge (i := 9) (pc' := 14) (tgt := 75) rfl rfl (by decide) ⟨by omega, by omega⟩ ⟨by omega, by omega⟩ (fun c1 => ?_) (fun c1 => by exfalso; omega)
    refine x_iload_n (i := 41) (pc' := 76) rfl rfl rfl rfl ?_
    exact m_ireturn (i := 42) rfl rfl (by rw [Int.sub_zero]; exact hQ)
theorem s_X12_isEnough {G : GG} {m : Mem} {Q : Option Value → Mem → Prop} {a : Int} (hM : MR m) (hn : NM m) (ha : 0 ≤ a ∧ a ≤ 15) (hQ : Q (some (.int (J (eno m a)))) m) : CM G 2 mX12_isEnough [.ref (G.2.2.2 76), .int (J (a))] m Q := by
  refine CM.of dkX12_isEnough (Or.inl rfl) [some _, some _, none, none, none] rfl (Nat.le_of_ble_eq_true rfl) ?_
  have hn0 := hn.1; have hn1 := hn.2
  refine x_iconst (i := 0) (pc' := 1) rfl rfl ?_
  refine x_istore_n (L' := [some _, some _, some _, none, none]) (i := 1) (pc' := 2) rfl rfl rfl rfl (by decide) rfl ?_
  refine x_iconst (i := 2) (pc' := 3) rfl rfl ?_
  refine x_istore_n (L' := [some _, some _, some _, some _, none]) (i := 3) (pc' := 4) rfl rfl rfl rfl (by decide) rfl ?_
  skip
  refine up_ind1 (P := fun (j : Int) (x : Int) => BW G 2 mX12_isEnough Q 4 [some (.ref (G.2.2.2 76)), some (.int (J (a))), some (.int (J (x))), some (.int (J (j))), none] [] m) (fun (j : Int) (x : Int) => enw m a j x) (fun (j : Int) (x : Int) => x = 0 ∨ x = 1) (m 77 0) (0) (1) (by omega) (by omega) (fun j x hj0 hj hi => it_I (I := fun x : Int => x = 0 ∨ x = 1) _ _ _ (fun k z _ _ hz => by (unfold enr; split <;> omega)) hi) (fun j x hj0 hj hi hk => ?_) (fun hi => ?_)
  · skip
    refine x_iload_n (i := 4) (pc' := 5) rfl rfl rfl rfl ?_
    refine x_aload_n (i := 5) (pc' := 6) rfl rfl rfl rfl ?_
    refine m_getf (i := 6) (pc' := 9) rfl rfl flX12_7 (sh76 G) rfl rfl ?_
    refine x_iconst (i := 7) (pc' := 10) rfl rfl ?_
    refine m_iald (i := 8) (pc' := 11) rfl rfl (sh77 G) (by decide) ⟨by omega, by omega⟩ ?_
    refine x_icmpge (i := 9) (pc' := 14) (tgt := 57) rfl rfl (by decide) ⟨by omega, by omega⟩ ⟨by omega, by omega⟩ (fun c1 => by exfalso; omega) (fun c1 => ?_)
    refine x_iconst (i := 10) (pc' := 15) rfl rfl ?_
    refine x_istore (L' := [some _, some _, some _, some _, some _]) (i := 11) (pc' := 17) rfl rfl rfl (by decide) rfl ?_
    refine up_ind1 (P := fun (k : Int) (y : Int) => BW G 2 mX12_isEnough Q 17 [some (.ref (G.2.2.2 76)), some (.int (J (a))), some (.int (J (y))), some (.int (J (j))), some (.int (J (k)))] [] m) (fun (k : Int) (y : Int) => enr m a j k y) (fun (k : Int) (y : Int) => y = 0 ∨ y = 1) (j) (0) (x) (by omega) (hi) (fun k y hj02 hj2 hi2 => by (unfold enr; split <;> omega)) (fun k y hj02 hj2 hi2 hk2 => ?_) (fun hi2 => ?_)
    · have hu := unl_le m j k
      have hia := ia_le (unl m j k) a; have hia2 := ia_nn (unl m j k) a
      refine x_iload (i := 12) (pc' := 19) rfl rfl rfl ?_
      refine x_iload_n (i := 13) (pc' := 20) rfl rfl rfl rfl ?_
      refine x_icmpge (i := 14) (pc' := 23) (tgt := 51) rfl rfl (by decide) ⟨by omega, by omega⟩ ⟨by omega, by omega⟩ (fun e1 => by exfalso; omega) (fun e1 => ?_)
      refine x_iload_n (i := 15) (pc' := 24) rfl rfl rfl rfl ?_
      refine x_ifeq (i := 16) (pc' := 27) (tgt := 43) rfl rfl (by decide) ⟨by omega, by omega⟩ (fun e2 => ?_) (fun e2 => ?_)
      · skip
        refine x_iconst (i := 26) (pc' := 44) rfl rfl ?_
        refine x_istore_n (L' := [some _, some _, some _, some _, some _]) (i := 27) (pc' := 45) rfl rfl rfl rfl (by decide) rfl ?_
        refine x_iinc (L' := [some _, some _, some _, some _, some _]) (i := 28) (pc' := 48) rfl rfl rfl rfl (by decide) rfl ?_
        refine x_goto (i := 29) (pc' := 17) rfl (by decide) ?_
        (unfold enr at hk2; first | exact hk2 | (refine AW.le ?_ hk2; simp [lvle]; done) | ((repeat' split at hk2) <;> first | exact hk2 | (refine AW.le ?_ hk2; simp [lvle]; done) | (exfalso; omega)))
      · skip
        refine x_aload_n (i := 17) (pc' := 28) rfl rfl rfl rfl ?_
        refine x_iload_n (i := 18) (pc' := 29) rfl rfl rfl rfl ?_
        refine x_iload (i := 19) (pc' := 31) rfl rfl rfl ?_
        refine m_callV (i := 20) (pc' := 34) (av := [_, _]) (rest := []) rfl rfl (by decide) lX12_157 (sh76 G) rfl rfl rfl rfl rfl (Nat.le_of_ble_eq_true rfl) (Nat.le_refl _) (Nat.le_refl _) (s_X12_unlike hM (by omega) (by omega) ?_)
        dsimp only [psh]
        refine x_iload_n (i := 21) (pc' := 35) rfl rfl rfl rfl ?_
        refine x_iand (i := 22) (pc' := 36) rfl rfl (by omega) (by omega) ?_
        refine x_ifeq (i := 23) (pc' := 39) (tgt := 43) rfl rfl (by decide) ⟨by omega, by omega⟩ (fun e3 => ?_) (fun e3 => ?_)
        · skip
          refine x_iconst (i := 26) (pc' := 44) rfl rfl ?_
          refine x_istore_n (L' := [some _, some _, some _, some _, some _]) (i := 27) (pc' := 45) rfl rfl rfl rfl (by decide) rfl ?_
          refine x_iinc (L' := [some _, some _, some _, some _, some _]) (i := 28) (pc' := 48) rfl rfl rfl rfl (by decide) rfl ?_
          refine x_goto (i := 29) (pc' := 17) rfl (by decide) ?_
          (unfold enr at hk2; first | exact hk2 | (refine AW.le ?_ hk2; simp [lvle]; done) | ((repeat' split at hk2) <;> first | exact hk2 | (refine AW.le ?_ hk2; simp [lvle]; done) | (exfalso; omega)))
        · skip
          refine x_iconst (i := 24) (pc' := 40) rfl rfl ?_
          refine x_goto (i := 25) (pc' := 44) rfl (by decide) ?_
          refine x_istore_n (L' := [some _, some _, some _, some _, some _]) (i := 27) (pc' := 45) rfl rfl rfl rfl (by decide) rfl ?_
          refine x_iinc (L' := [some _, some _, some _, some _, some _]) (i := 28) (pc' := 48) rfl rfl rfl rfl (by decide) rfl ?_
          refine x_goto (i := 29) (pc' := 17) rfl (by decide) ?_
          (unfold enr at hk2; first | exact hk2 | (refine AW.le ?_ hk2; simp [lvle]; done) | ((repeat' split at hk2) <;> first | exact hk2 | (refine AW.le ?_ hk2; simp [lvle]; done) | (exfalso; omega)))
    · skip
      refine x_iload (i := 12) (pc' := 19) rfl rfl rfl ?_
      refine x_iload_n (i := 13) (pc' := 20) rfl rfl rfl rfl ?_
      refine x_icmpge (i := 14) (pc' := 23) (tgt := 51) rfl rfl (by decide) ⟨by omega, by omega⟩ ⟨by omega, by omega⟩ (fun f1 => ?_) (fun f1 => by exfalso; omega)
      refine x_iinc (L' := [some _, some _, some _, some _, some _]) (i := 30) (pc' := 54) rfl rfl rfl rfl (by decide) rfl ?_
      refine x_goto (i := 31) (pc' := 4) rfl (by decide) ?_
      (unfold enw at hk; first | exact hk | (refine AW.le ?_ hk; simp [lvle]; done) | ((repeat' split at hk) <;> first | exact hk | (refine AW.le ?_ hk; simp [lvle]; done) | (exfalso; omega)))
  · skip
    refine x_iload_n (i := 4) (pc' := 5) rfl rfl rfl rfl ?_
    refine x_aload_n (i := 5) (pc' := 6) rfl rfl rfl rfl ?_
    refine m_getf (i := 6) (pc' := 9) rfl rfl flX12_7 (sh76 G) rfl rfl ?_
    refine x_iconst (i := 7) (pc' := 10) rfl rfl ?_
    refine m_iald (i := 8) (pc' := 11) rfl rfl (sh77 G) (by decide) ⟨by omega, by omega⟩ ?_
    refine x_icmpge (i := 9) (pc' := 14) (tgt := 57) rfl rfl (by decide) ⟨by omega, by omega⟩ ⟨by omega, by omega⟩ (fun c1 => ?_) (fun c1 => by exfalso; omega)
    refine x_iload_n (i := 32) (pc' := 58) rfl rfl rfl rfl ?_
    exact m_zreturn (i := 33) rfl rfl (by omega) (by rw [Int.sub_zero]; exact hQ)
theorem s_X12_leastEnough {G : GG} {m : Mem} {Q : Option Value → Mem → Prop} (hM : MR m) (hn : NM m) (hQ : Q (some (.int (J (lnf m)))) m) : CM G 3 mX12_leastEnough [.ref (G.2.2.2 76)] m Q := by
  refine CM.of dkX12_leastEnough (Or.inl rfl) [some _, none, none] rfl (Nat.le_of_ble_eq_true rfl) ?_
  have hn0 := hn.1; have hn1 := hn.2
  refine x_bipush (i := 0) (pc' := 2) rfl rfl (by decide) ?_
  refine x_istore_n (L' := [some _, some _, none]) (i := 1) (pc' := 3) rfl rfl rfl rfl (by decide) rfl ?_
  refine x_bipush (i := 2) (pc' := 5) rfl rfl (by decide) ?_
  refine x_istore_n (L' := [some _, some _, some _]) (i := 3) (pc' := 6) rfl rfl rfl rfl (by decide) rfl ?_
  skip
  refine up_ind1 (P := fun (j : Int) (x : Int) => BW G 3 mX12_leastEnough Q 6 [some (.ref (G.2.2.2 76)), some (.int (J (x))), some (.int (J (15 - j)))] [] m) (fun (j : Int) (x : Int) => if ¬ eno m (15 - j) = 0 ∧ ons (15 - j) ≤ ons x then 15 - j else x) (fun (j : Int) (x : Int) => 0 ≤ x ∧ x ≤ 15) (16) (0) (15) (by omega) (by omega) (fun j x hj0 hj hi => by split <;> omega) (fun j x hj0 hj hi hk => ?_) (fun hi => ?_)
  · have h01 := eno_01 m (15 - j); have o1 := ons_le (15 - j); have o2 := ons_le x
    refine x_iload_n (i := 4) (pc' := 7) rfl rfl rfl rfl ?_
    refine x_iflt (i := 5) (pc' := 10) (tgt := 41) rfl rfl (by decide) ⟨by omega, by omega⟩ (fun c1 => by exfalso; omega) (fun c1 => ?_)
    refine x_aload_n (i := 6) (pc' := 11) rfl rfl rfl rfl ?_
    refine x_iload_n (i := 7) (pc' := 12) rfl rfl rfl rfl ?_
    refine m_callV (i := 8) (pc' := 15) (av := [_]) (rest := []) rfl rfl (by decide) lX12_163 (sh76 G) rfl rfl rfl rfl rfl (Nat.le_of_ble_eq_true rfl) (Nat.le_refl _) (Nat.le_refl _) (s_X12_isEnough hM hn (by omega) ?_)
    dsimp only [psh]
    refine x_ifeq (i := 9) (pc' := 18) (tgt := 33) rfl rfl (by decide) ⟨by omega, by omega⟩ (fun c2 => ?_) (fun c2 => ?_)
    · skip
      refine x_iload_n (i := 17) (pc' := 34) rfl rfl rfl rfl ?_
      refine x_istore_n (L' := [some _, some _, some _]) (i := 18) (pc' := 35) rfl rfl rfl rfl (by decide) rfl ?_
      refine x_iinc (L' := [some _, some _, some _]) (i := 19) (pc' := 38) rfl rfl rfl rfl (by decide) rfl ?_
      refine x_goto (i := 20) (pc' := 6) rfl (by decide) ?_
      (rw [show 15 - (j + 1) = 15 - j + -1 by omega] at hk; (repeat' split at hk) <;> first | (exfalso; omega; done) | exact hk)
    · skip
      refine x_iload_n (i := 10) (pc' := 19) rfl rfl rfl rfl ?_
      refine m_callS (i := 11) (pc' := 22) (av := [_]) (rest := []) rfl rfl (by decide) lX12_121 rfl rfl (Nat.le_of_ble_eq_true rfl) (Nat.le_refl _) (Nat.le_refl _) (s_X12_ones (by omega) ?_)
      dsimp only [psh]
      refine x_iload_n (i := 12) (pc' := 23) rfl rfl rfl rfl ?_
      refine m_callS (i := 13) (pc' := 26) (av := [_]) (rest := [_]) rfl rfl (by decide) lX12_121 rfl rfl (Nat.le_of_ble_eq_true rfl) (Nat.le_refl _) (Nat.le_refl _) (s_X12_ones (by omega) ?_)
      dsimp only [psh]
      refine x_icmpgt (i := 14) (pc' := 29) (tgt := 33) rfl rfl (by decide) ⟨by omega, by omega⟩ ⟨by omega, by omega⟩ (fun c3 => ?_) (fun c3 => ?_)
      · skip
        refine x_iload_n (i := 17) (pc' := 34) rfl rfl rfl rfl ?_
        refine x_istore_n (L' := [some _, some _, some _]) (i := 18) (pc' := 35) rfl rfl rfl rfl (by decide) rfl ?_
        refine x_iinc (L' := [some _, some _, some _]) (i := 19) (pc' := 38) rfl rfl rfl rfl (by decide) rfl ?_
        refine x_goto (i := 20) (pc' := 6) rfl (by decide) ?_
        (rw [show 15 - (j + 1) = 15 - j + -1 by omega] at hk; (repeat' split at hk) <;> first | (exfalso; omega; done) | exact hk)
      · skip
        refine x_iload_n (i := 15) (pc' := 30) rfl rfl rfl rfl ?_
        refine x_goto (i := 16) (pc' := 34) rfl (by decide) ?_
        refine x_istore_n (L' := [some _, some _, some _]) (i := 18) (pc' := 35) rfl rfl rfl rfl (by decide) rfl ?_
        refine x_iinc (L' := [some _, some _, some _]) (i := 19) (pc' := 38) rfl rfl rfl rfl (by decide) rfl ?_
        refine x_goto (i := 20) (pc' := 6) rfl (by decide) ?_
        (rw [show 15 - (j + 1) = 15 - j + -1 by omega] at hk; (repeat' split at hk) <;> first | (exfalso; omega; done) | exact hk)
  · skip
    refine x_iload_n (i := 4) (pc' := 7) rfl rfl rfl rfl ?_
    refine x_iflt (i := 5) (pc' := 10) (tgt := 41) rfl rfl (by decide) ⟨by omega, by omega⟩ (fun c1 => ?_) (fun c1 => by exfalso; omega)
    refine x_iload_n (i := 21) (pc' := 42) rfl rfl rfl rfl ?_
    exact m_ireturn (i := 22) rfl rfl (hQ)
theorem s_X12_twins {G : GG} {m : Mem} {Q : Option Value → Mem → Prop} {a : Int} (h : GM m) (ra : rg a) (hQ : Q (some (.int (J (if -1 ≤ a ∧ a ≤ 3 then (twn m a) else -2)))) (if -1 ≤ a ∧ a ≤ 3 then (m) else rfm m (-2))) : CM G 3 mX12_twins [.ref (G.2.2.2 76), .int (J (a))] m Q := by
  refine CM.of dkX12_twins (Or.inl rfl) [some _, some _] rfl (Nat.le_of_ble_eq_true rfl) ?_
  obtain ⟨hM, ⟨hn, hc, hv, hst, hw, hwd, hpo⟩, hst5, hle, her⟩ := h
  have hn0 := hn.1; have hn1 := hn.2; have hc0 := hc.1; have hc1 := hc.2
  refine x_iload_n (i := 0) (pc' := 1) rfl rfl rfl rfl ?_
  refine x_i2l (i := 1) (pc' := 2) rfl rfl (by (repeat' split at *) <;> omega) ?_
  refine x_ldc2 (i := 2) (pc' := 5) rfl rfl kX12_137 ?_
  refine x_ldc2 (i := 3) (pc' := 8) rfl rfl kX12_60 ?_
  refine m_callS (i := 4) (pc' := 11) (av := [_, _, _]) (rest := []) rfl rfl (by decide) lX12_42 rfl rfl (Nat.le_of_ble_eq_true rfl) (Nat.le_refl _) (Nat.le_refl _) (s_X12_in (by omega) (by omega) (by omega) ?_)
  dsimp only [psh]
  refine x_ifeq (i := 5) (pc' := 14) (tgt := 22) rfl rfl (by decide) (by (repeat' split at *) <;> omega) (fun c1 => ?_) (fun c1 => ?_)
  · skip
    refine x_aload_n (i := 10) (pc' := 23) rfl rfl rfl rfl ?_
    refine x_bipush (i := 11) (pc' := 25) rfl rfl (by decide) ?_
    refine m_callV (i := 12) (pc' := 28) (av := [_]) (rest := []) rfl rfl (by decide) lX12_69 (sh76 G) rfl rfl rfl rfl rfl (Nat.le_of_ble_eq_true rfl) (Nat.le_refl _) (Nat.le_refl _) (s_X12_refuses (by omega) ?_)
    dsimp only [psh]
    exact m_ireturn (i := 13) rfl rfl (by (repeat' split at hQ) <;> (repeat' split at *) <;> first | exact hQ | (exfalso; omega))
  · skip
    refine x_aload_n (i := 6) (pc' := 15) rfl rfl rfl rfl ?_
    refine x_iload_n (i := 7) (pc' := 16) rfl rfl rfl rfl ?_
    refine m_callV (i := 8) (pc' := 19) (av := [_]) (rest := []) rfl rfl (by decide) lX12_160 (sh76 G) rfl rfl rfl rfl rfl (Nat.le_of_ble_eq_true rfl) (Nat.le_refl _) (Nat.le_refl _) (s_X12_twinsBy hM hn (by (repeat' split at *) <;> omega) ?_)
    dsimp only [psh]
    refine x_goto (i := 9) (pc' := 28) rfl (by decide) ?_
    exact m_ireturn (i := 13) rfl rfl (by (repeat' split at hQ) <;> (repeat' split at *) <;> first | exact hQ | (exfalso; omega))
theorem s_X12_enough {G : GG} {m : Mem} {Q : Option Value → Mem → Prop} {a : Int} (h : GM m) (ra : rg a) (hQ : Q (some (.int (J (if -1 ≤ a ∧ a ≤ 15 then (if a = -1 then lnf m else eno m a) else -2)))) (if -1 ≤ a ∧ a ≤ 15 then (m) else rfm m (-2))) : CM G 4 mX12_enough [.ref (G.2.2.2 76), .int (J (a))] m Q := by
  refine CM.of dkX12_enough (Or.inl rfl) [some _, some _] rfl (Nat.le_of_ble_eq_true rfl) ?_
  obtain ⟨hM, ⟨hn, hc, hv, hst, hw, hwd, hpo⟩, hst5, hle, her⟩ := h
  have hn0 := hn.1; have hn1 := hn.2; have hc0 := hc.1; have hc1 := hc.2
  have h01 := eno_01 m a
  refine x_iload_n (i := 0) (pc' := 1) rfl rfl rfl rfl ?_
  refine x_i2l (i := 1) (pc' := 2) rfl rfl (by (repeat' split at *) <;> omega) ?_
  refine x_ldc2 (i := 2) (pc' := 5) rfl rfl kX12_137 ?_
  refine x_ldc2 (i := 3) (pc' := 8) rfl rfl kX12_166 ?_
  refine m_callS (i := 4) (pc' := 11) (av := [_, _, _]) (rest := []) rfl rfl (by decide) lX12_42 rfl rfl (Nat.le_of_ble_eq_true rfl) (Nat.le_refl _) (Nat.le_refl _) (s_X12_in (by omega) (by omega) (by omega) ?_)
  dsimp only [psh]
  refine x_ifne (i := 5) (pc' := 14) (tgt := 21) rfl rfl (by decide) (by (repeat' split at *) <;> omega) (fun c1 => ?_) (fun c1 => ?_)
  · skip
    refine x_iload_n (i := 10) (pc' := 22) rfl rfl rfl rfl ?_
    refine x_iconst (i := 11) (pc' := 23) rfl rfl ?_
    refine x_icmpne (i := 12) (pc' := 26) (tgt := 33) rfl rfl (by decide) (by (repeat' split at *) <;> omega) (by (repeat' split at *) <;> omega) (fun c2 => ?_) (fun c2 => ?_)
    · skip
      refine x_aload_n (i := 16) (pc' := 34) rfl rfl rfl rfl ?_
      refine x_iload_n (i := 17) (pc' := 35) rfl rfl rfl rfl ?_
      refine m_callV (i := 18) (pc' := 38) (av := [_]) (rest := []) rfl rfl (by decide) lX12_163 (sh76 G) rfl rfl rfl rfl rfl (Nat.le_of_ble_eq_true rfl) (Nat.le_refl _) (Nat.le_refl _) (s_X12_isEnough hM hn (by (repeat' split at *) <;> omega) ?_)
      dsimp only [psh]
      refine x_ifeq (i := 19) (pc' := 41) (tgt := 45) rfl rfl (by decide) (by (repeat' split at *) <;> omega) (fun c3 => ?_) (fun c3 => ?_)
      · skip
        refine x_iconst (i := 22) (pc' := 46) rfl rfl ?_
        exact m_ireturn (i := 23) rfl rfl (by (repeat' split at hQ) <;> (repeat' split at *) <;> first | (exfalso; omega; done) | (rw [show eno m a = 1 by omega] at hQ; exact hQ) | (rw [show eno m a = 0 by omega] at hQ; exact hQ) | exact hQ)
      · skip
        refine x_iconst (i := 20) (pc' := 42) rfl rfl ?_
        refine x_goto (i := 21) (pc' := 46) rfl (by decide) ?_
        exact m_ireturn (i := 23) rfl rfl (by (repeat' split at hQ) <;> (repeat' split at *) <;> first | (exfalso; omega; done) | (rw [show eno m a = 1 by omega] at hQ; exact hQ) | (rw [show eno m a = 0 by omega] at hQ; exact hQ) | exact hQ)
    · skip
      refine x_aload_n (i := 13) (pc' := 27) rfl rfl rfl rfl ?_
      refine m_callV (i := 14) (pc' := 30) (av := []) (rest := []) rfl rfl (by decide) lX12_168 (sh76 G) rfl rfl rfl rfl rfl (Nat.le_of_ble_eq_true rfl) (Nat.le_refl _) (Nat.le_refl _) (s_X12_leastEnough hM hn ?_)
      dsimp only [psh]
      refine x_goto (i := 15) (pc' := 46) rfl (by decide) ?_
      exact m_ireturn (i := 23) rfl rfl (by (repeat' split at hQ) <;> (repeat' split at *) <;> first | (exfalso; omega; done) | (rw [show eno m a = 1 by omega] at hQ; exact hQ) | (rw [show eno m a = 0 by omega] at hQ; exact hQ) | exact hQ)
  · skip
    refine x_aload_n (i := 6) (pc' := 15) rfl rfl rfl rfl ?_
    refine x_bipush (i := 7) (pc' := 17) rfl rfl (by decide) ?_
    refine m_callV (i := 8) (pc' := 20) (av := [_]) (rest := []) rfl rfl (by decide) lX12_69 (sh76 G) rfl rfl rfl rfl rfl (Nat.le_of_ble_eq_true rfl) (Nat.le_refl _) (Nat.le_refl _) (s_X12_refuses (by omega) ?_)
    dsimp only [psh]
    exact m_ireturn (i := 9) rfl rfl (by (repeat' split at hQ) <;> (repeat' split at *) <;> first | (exfalso; omega; done) | (rw [show eno m a = 1 by omega] at hQ; exact hQ) | (rw [show eno m a = 0 by omega] at hQ; exact hQ) | exact hQ)
