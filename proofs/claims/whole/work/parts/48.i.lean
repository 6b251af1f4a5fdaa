def ctw (y : Mem) (i : Int) : Mem := it (fun j (x : Mem) => stm x 77 j (x 77 (j + 3))) (82 + 3 * i) (82 + 3 * (y 77 1 - 1) - (82 + 3 * i)).toNat (stm y 77 1 (y 77 1 - 1))
def swp (m : Mem) (i j : Int) : Mem := it (fun w (x : Mem) => stm (stm x 77 (82 + 3 * i + w) (x 77 (82 + 3 * j + w))) 77 (82 + 3 * j + w) (x 77 (82 + 3 * i + w))) 0 3 m
def nx (a j : Int) : Int := if a < j then a + 1 else a - 1
def sfm (j : Int) : Nat → Int → Mem → Mem
  | 0, _, m => m
  | k + 1, a, m => sfm j k (nx a j) (swp m a (nx a j))
theorem ct_tail {G : GG} {y : Mem} {Q : Option Value → Mem → Prop} {i : Int} (hc : CMd y) (hi : 0 ≤ i ∧ i < y 77 1) (hQ : Q (some (.int (J (y 77 1 - 1)))) (ctw y i)) : BW G 2 mX12_cuts Q 19 [some (.ref (G.2.2.2 76)), some (.int (J (i))), none] [] y := by
  have hc0 := hc.1; have hc1 := hc.2
  have e1 : stm y 77 1 (y 77 1 - 1) 77 1 = y 77 1 - 1 := stm_eq _ _ _ _
  refine x_aload_n (i := 10) (pc' := 20) rfl rfl rfl rfl ?_
  refine m_getf (i := 11) (pc' := 23) rfl rfl flX12_7 (sh76 G) rfl rfl ?_
  refine x_iconst (i := 12) (pc' := 24) rfl rfl ?_
  refine x_dup2 (i := 13) (pc' := 25) rfl rfl rfl rfl ?_
  refine m_iald (i := 14) (pc' := 26) rfl rfl (sh77 G) (by decide) ⟨by omega, by omega⟩ ?_
  refine x_iconst (i := 15) (pc' := 27) rfl rfl ?_
  refine x_isub (i := 16) (pc' := 28) rfl rfl ?_
  refine m_iast (i := 17) (pc' := 29) rfl rfl (sh77 G) (by decide) ⟨by omega, by omega⟩ ?_
  refine x_bipush (i := 18) (pc' := 31) rfl rfl (by decide) ?_
  refine x_iconst (i := 19) (pc' := 32) rfl rfl ?_
  refine x_iload_n (i := 20) (pc' := 33) rfl rfl rfl rfl ?_
  refine x_imul (i := 21) (pc' := 34) rfl rfl ?_
  refine x_iadd (i := 22) (pc' := 35) rfl rfl ?_
  refine x_istore_n (L' := [some _, some _, some _]) (i := 23) (pc' := 36) rfl rfl rfl rfl (by decide) rfl ?_
  skip
  refine up_ind1 (P := fun (j : Int) (x : Mem) => BW G 2 mX12_cuts Q 36 [some (.ref (G.2.2.2 76)), some (.int (J (i))), some (.int (J (j)))] [] x) (fun (j : Int) (x : Mem) => stm x 77 j (x 77 (j + 3))) (fun (j : Int) (x : Mem) => x 77 1 = y 77 1 - 1) (82 + 3 * (y 77 1 - 1)) (82 + 3 * i) (stm y 77 1 (y 77 1 - 1)) (by omega) (e1) (fun j x hj0 hj hz => by (rw [stm_ix _ _ _ (by omega)]; exact hz)) (fun j x hj0 hj hi hk => ?_) (fun hz => ?_)
  · skip
    refine x_iload_n (i := 24) (pc' := 37) rfl rfl rfl rfl ?_
    refine x_bipush (i := 25) (pc' := 39) rfl rfl (by decide) ?_
    refine x_iconst (i := 26) (pc' := 40) rfl rfl ?_
    refine x_aload_n (i := 27) (pc' := 41) rfl rfl rfl rfl ?_
    refine m_getf (i := 28) (pc' := 44) rfl rfl flX12_7 (sh76 G) rfl rfl ?_
    refine x_iconst (i := 29) (pc' := 45) rfl rfl ?_
    refine m_iald (i := 30) (pc' := 46) rfl rfl (sh77 G) (by decide) ⟨by omega, by omega⟩ ?_
    refine x_imul (i := 31) (pc' := 47) rfl rfl ?_
    refine x_iadd (i := 32) (pc' := 48) rfl rfl ?_
    refine x_icmpge (i := 33) (pc' := 51) (tgt := 71) rfl rfl (by decide) ⟨by omega, by omega⟩ ⟨by omega, by omega⟩ (fun c1 => by exfalso; omega) (fun c1 => ?_)
    refine x_aload_n (i := 34) (pc' := 52) rfl rfl rfl rfl ?_
    refine m_getf (i := 35) (pc' := 55) rfl rfl flX12_7 (sh76 G) rfl rfl ?_
    refine x_iload_n (i := 36) (pc' := 56) rfl rfl rfl rfl ?_
    refine x_aload_n (i := 37) (pc' := 57) rfl rfl rfl rfl ?_
    refine m_getf (i := 38) (pc' := 60) rfl rfl flX12_7 (sh76 G) rfl rfl ?_
    refine x_iload_n (i := 39) (pc' := 61) rfl rfl rfl rfl ?_
    refine x_iconst (i := 40) (pc' := 62) rfl rfl ?_
    refine x_iadd (i := 41) (pc' := 63) rfl rfl ?_
    refine m_iald (i := 42) (pc' := 64) rfl rfl (sh77 G) (by decide) ⟨by omega, by omega⟩ ?_
    refine m_iast (i := 43) (pc' := 65) rfl rfl (sh77 G) (by decide) ⟨by omega, by omega⟩ ?_
    refine x_iinc (L' := [some _, some _, some _]) (i := 44) (pc' := 68) rfl rfl rfl rfl (by decide) rfl ?_
    refine x_goto (i := 45) (pc' := 36) rfl (by decide) ?_
    (first | exact hk | (refine AW.le ?_ hk; simp [lvle]; done) | ((repeat' split at hk) <;> first | exact hk | (refine AW.le ?_ hk; simp [lvle]; done) | (exfalso; omega)))
  · skip
    refine x_iload_n (i := 24) (pc' := 37) rfl rfl rfl rfl ?_
    refine x_bipush (i := 25) (pc' := 39) rfl rfl (by decide) ?_
    refine x_iconst (i := 26) (pc' := 40) rfl rfl ?_
    refine x_aload_n (i := 27) (pc' := 41) rfl rfl rfl rfl ?_
    refine m_getf (i := 28) (pc' := 44) rfl rfl flX12_7 (sh76 G) rfl rfl ?_
    refine x_iconst (i := 29) (pc' := 45) rfl rfl ?_
    refine m_iald (i := 30) (pc' := 46) rfl rfl (sh77 G) (by decide) ⟨by omega, by omega⟩ ?_
    refine x_imul (i := 31) (pc' := 47) rfl rfl ?_
    refine x_iadd (i := 32) (pc' := 48) rfl rfl ?_
    refine x_icmpge (i := 33) (pc' := 51) (tgt := 71) rfl rfl (by decide) ⟨by omega, by omega⟩ ⟨by omega, by omega⟩ (fun c1 => ?_) (fun c1 => by exfalso; omega)
    refine x_aload_n (i := 46) (pc' := 72) rfl rfl rfl rfl ?_
    refine m_getf (i := 47) (pc' := 75) rfl rfl flX12_7 (sh76 G) rfl rfl ?_
    refine x_iconst (i := 48) (pc' := 76) rfl rfl ?_
    refine m_iald (i := 49) (pc' := 77) rfl rfl (sh77 G) (by decide) ⟨by omega, by omega⟩ ?_
    rw [hz]
    exact m_ireturn (i := 50) rfl rfl (hQ)
theorem s_X12_cuts {G : GG} {m : Mem} {Q : Option Value → Mem → Prop} {a : Int} (h : GM m) (ra : rg a) (hQ : Q (some (.int (J (if 0 ≤ a ∧ a < m 77 1 then m 77 1 - 1 else -2)))) (if 0 ≤ a ∧ a < m 77 1 then ctw (mdm m) a else rfm m (-2))) : CM G 2 mX12_cuts [.ref (G.2.2.2 76), .int (J (a))] m Q := by
  refine CM.of dkX12_cuts (Or.inl rfl) [some _, some _, none] rfl (Nat.le_of_ble_eq_true rfl) ?_
  obtain ⟨hM, ⟨hn, hc, hv, hst, hw, hwd, hpo⟩, hst5, hle, her⟩ := h
  have hn0 := hn.1; have hn1 := hn.2; have hc0 := hc.1; have hc1 := hc.2
  by_cases hcc : 0 ≤ a ∧ a < m 77 1
  · rw [if_pos hcc, if_pos hcc] at hQ
    refine x_aload_n (i := 0) (pc' := 1) rfl rfl rfl rfl ?_
    refine x_iload_n (i := 1) (pc' := 2) rfl rfl rfl rfl ?_
    refine m_callV (i := 2) (pc' := 5) (av := [_]) (rest := []) rfl rfl (by decide) lX12_180 (sh76 G) rfl rfl rfl rfl rfl (Nat.le_of_ble_eq_true rfl) (Nat.le_refl _) (Nat.le_refl _) (s_X12_isWord hc ra ?_)
    dsimp only [psh]
    refine x_ifne (i := 3) (pc' := 8) (tgt := 15) rfl rfl (by decide) (by (repeat' split at *) <;> omega) (fun c1 => ?_) (fun c1 => by exfalso; (repeat' split at *) <;> omega)
    refine x_aload_n (i := 8) (pc' := 16) rfl rfl rfl rfl ?_
    refine m_callV (i := 9) (pc' := 19) (av := []) (rest := []) rfl rfl (by decide) lX12_73 (sh76 G) rfl rfl rfl rfl rfl (Nat.le_of_ble_eq_true rfl) (Nat.le_refl _) (Nat.le_refl _) (s_X12_minds hst5 ?_)
    dsimp only [psh]
    have zlo : ∀ i, i < 140 → mdm m 77 i = m 77 i := fun i hi => mdm_lo hst5 hi
    have zM := mdm_MR hM hst5
    generalize mdm m = y at hQ zlo zM ⊢
    have z0 := zlo 0 (by decide); have z1 := zlo 1 (by decide)
    rw [← z1] at hQ
    exact ct_tail (by unfold CMd; rw [z1]; exact hc) (by omega) hQ
  · rw [if_neg hcc, if_neg hcc] at hQ
    refine x_aload_n (i := 0) (pc' := 1) rfl rfl rfl rfl ?_
    refine x_iload_n (i := 1) (pc' := 2) rfl rfl rfl rfl ?_
    refine m_callV (i := 2) (pc' := 5) (av := [_]) (rest := []) rfl rfl (by decide) lX12_180 (sh76 G) rfl rfl rfl rfl rfl (Nat.le_of_ble_eq_true rfl) (Nat.le_refl _) (Nat.le_refl _) (s_X12_isWord hc ra ?_)
    dsimp only [psh]
    refine x_ifne (i := 3) (pc' := 8) (tgt := 15) rfl rfl (by decide) (by (repeat' split at *) <;> omega) (fun c1 => by exfalso; (repeat' split at *) <;> omega) (fun c1 => ?_)
    refine x_aload_n (i := 4) (pc' := 9) rfl rfl rfl rfl ?_
    refine x_bipush (i := 5) (pc' := 11) rfl rfl (by decide) ?_
    refine m_callV (i := 6) (pc' := 14) (av := [_]) (rest := []) rfl rfl (by decide) lX12_69 (sh76 G) rfl rfl rfl rfl rfl (Nat.le_of_ble_eq_true rfl) (Nat.le_refl _) (Nat.le_refl _) (s_X12_refuses (by omega) ?_)
    dsimp only [psh]
    exact m_ireturn (i := 7) rfl rfl (hQ)
theorem s_X12_swaps {G : GG} {m : Mem} {Q : Option Value → Mem → Prop} {i j : Int} (hi : 0 ≤ i ∧ i ≤ 15) (hj : 0 ≤ j ∧ j ≤ 15) (hne : ¬ i = j) (hQ : Q none (swp m i j)) : CM G 1 mX12_swaps [.ref (G.2.2.2 76), .int (J (i)), .int (J (j))] m Q := by
  refine CM.of dkX12_swaps (Or.inl rfl) [some _, some _, some _, none, none] rfl (Nat.le_of_ble_eq_true rfl) ?_
  refine x_iconst (i := 0) (pc' := 1) rfl rfl ?_
  refine x_istore_n (L' := [some _, some _, some _, some _, none]) (i := 1) (pc' := 2) rfl rfl rfl rfl (by decide) rfl ?_
  skip
  refine up_ind0 (P := fun (w : Int) (x : Mem) => BW G 1 mX12_swaps Q 2 [some (.ref (G.2.2.2 76)), some (.int (J (i))), some (.int (J (j))), some (.int (J (w))), none] [] x) (fun (w : Int) (x : Mem) => stm (stm x 77 (82 + 3 * i + w) (x 77 (82 + 3 * j + w))) 77 (82 + 3 * j + w) (x 77 (82 + 3 * i + w))) (3) (0) (m) (by omega) (fun w x hj0 hj hk => ?_) ?_
  · skip
    refine x_iload_n (i := 2) (pc' := 3) rfl rfl rfl rfl ?_
    refine x_iconst (i := 3) (pc' := 4) rfl rfl ?_
    refine x_icmpge (i := 4) (pc' := 7) (tgt := 55) rfl rfl (by decide) ⟨by omega, by omega⟩ ⟨by omega, by omega⟩ (fun c1 => by exfalso; omega) (fun c1 => ?_)
    refine x_aload_n (i := 5) (pc' := 8) rfl rfl rfl rfl ?_
    refine x_iload_n (i := 6) (pc' := 9) rfl rfl rfl rfl ?_
    refine x_iload_n (i := 7) (pc' := 10) rfl rfl rfl rfl ?_
    refine m_callV (i := 8) (pc' := 13) (av := [_, _]) (rest := []) rfl rfl (by decide) lX12_171 (sh76 G) rfl rfl rfl rfl rfl (Nat.le_of_ble_eq_true rfl) (Nat.le_refl _) (Nat.le_refl _) (s_X12_said (by omega) (by omega) ?_)
    dsimp only [psh]
    refine x_istore (L' := [some _, some _, some _, some _, some _]) (i := 9) (pc' := 15) rfl rfl rfl (by decide) rfl ?_
    refine x_aload_n (i := 10) (pc' := 16) rfl rfl rfl rfl ?_
    refine m_getf (i := 11) (pc' := 19) rfl rfl flX12_7 (sh76 G) rfl rfl ?_
    refine x_bipush (i := 12) (pc' := 21) rfl rfl (by decide) ?_
    refine x_iconst (i := 13) (pc' := 22) rfl rfl ?_
    refine x_iload_n (i := 14) (pc' := 23) rfl rfl rfl rfl ?_
    refine x_imul (i := 15) (pc' := 24) rfl rfl ?_
    refine x_iadd (i := 16) (pc' := 25) rfl rfl ?_
    refine x_iload_n (i := 17) (pc' := 26) rfl rfl rfl rfl ?_
    refine x_iadd (i := 18) (pc' := 27) rfl rfl ?_
    refine x_aload_n (i := 19) (pc' := 28) rfl rfl rfl rfl ?_
    refine x_iload_n (i := 20) (pc' := 29) rfl rfl rfl rfl ?_
    refine x_iload_n (i := 21) (pc' := 30) rfl rfl rfl rfl ?_
    refine m_callV (i := 22) (pc' := 33) (av := [_, _]) (rest := [_, _]) rfl rfl (by decide) lX12_171 (sh76 G) rfl rfl rfl rfl rfl (Nat.le_of_ble_eq_true rfl) (Nat.le_refl _) (Nat.le_refl _) (s_X12_said (by omega) (by omega) ?_)
    dsimp only [psh]
    refine m_iast (i := 23) (pc' := 34) rfl rfl (sh77 G) (by decide) ⟨by omega, by omega⟩ ?_
    refine x_aload_n (i := 24) (pc' := 35) rfl rfl rfl rfl ?_
    refine m_getf (i := 25) (pc' := 38) rfl rfl flX12_7 (sh76 G) rfl rfl ?_
    refine x_bipush (i := 26) (pc' := 40) rfl rfl (by decide) ?_
    refine x_iconst (i := 27) (pc' := 41) rfl rfl ?_
    refine x_iload_n (i := 28) (pc' := 42) rfl rfl rfl rfl ?_
    refine x_imul (i := 29) (pc' := 43) rfl rfl ?_
    refine x_iadd (i := 30) (pc' := 44) rfl rfl ?_
    refine x_iload_n (i := 31) (pc' := 45) rfl rfl rfl rfl ?_
    refine x_iadd (i := 32) (pc' := 46) rfl rfl ?_
    refine x_iload (i := 33) (pc' := 48) rfl rfl rfl ?_
    refine m_iast (i := 34) (pc' := 49) rfl rfl (sh77 G) (by decide) ⟨by omega, by omega⟩ ?_
    refine x_iinc (L' := [some _, some _, some _, some _, some _]) (i := 35) (pc' := 52) rfl rfl rfl rfl (by decide) rfl ?_
    refine x_goto (i := 36) (pc' := 2) rfl (by decide) ?_
    (first | exact hk | (refine AW.le ?_ hk; simp [lvle]; done) | ((repeat' split at hk) <;> first | exact hk | (refine AW.le ?_ hk; simp [lvle]; done) | (exfalso; omega)))
  · skip
    refine x_iload_n (i := 2) (pc' := 3) rfl rfl rfl rfl ?_
    refine x_iconst (i := 3) (pc' := 4) rfl rfl ?_
    refine x_icmpge (i := 4) (pc' := 7) (tgt := 55) rfl rfl (by decide) ⟨by omega, by omega⟩ ⟨by omega, by omega⟩ (fun c1 => ?_) (fun c1 => by exfalso; omega)
    exact m_return (i := 37) rfl rfl (hQ)
theorem sf_loop {G : GG} {Q : Option Value → Mem → Prop} {i j : Int} (hi : 0 ≤ i ∧ i ≤ 15) (hj : 0 ≤ j ∧ j ≤ 15) : ∀ (k : Nat) (a : Int) (x : Mem) (L4 : Option Value), ab (a - j) = k → (0 ≤ a ∧ a ≤ 15) → Q (some (.int (J (ab (i - j))))) (sfm j k a x) → BW G 2 mX12_shifts Q 29 [some (.ref (G.2.2.2 76)), some (.int (J i)), some (.int (J j)), some (.int (J a)), L4] [] x := by
  intro k
  induction k with
  | zero =>
    intro a x L4 hk ha hQ
    have e : a = j := (by unfold ab at hk; split at hk <;> omega)
    refine x_iload_n (i := 16) (pc' := 30) rfl rfl rfl rfl ?_
    refine x_iload_n (i := 17) (pc' := 31) rfl rfl rfl rfl ?_
    refine x_icmpeq (i := 18) (pc' := 34) (tgt := 63) rfl rfl (by decide) ⟨by omega, by omega⟩ ⟨by omega, by omega⟩ (fun c1 => ?_) (fun c1 => by exact absurd e c1)
    refine x_iload_n (i := 37) (pc' := 64) rfl rfl rfl rfl ?_
    refine x_iload_n (i := 38) (pc' := 65) rfl rfl rfl rfl ?_
    refine m_callS (i := 39) (pc' := 68) (av := [_, _]) (rest := []) rfl rfl (by decide) lX12_124 rfl rfl (Nat.le_of_ble_eq_true rfl) (Nat.le_refl _) (Nat.le_refl _) (s_X12_off (by omega) (by omega) ?_)
    dsimp only [psh]
    exact m_ireturn (i := 40) rfl rfl (hQ)
  | succ k ih =>
    intro a x L4 hk ha hQ
    have e : ¬ a = j := (by intro e; subst e; unfold ab at hk; split at hk <;> omega)
    by_cases hlt : a < j
    · have en : nx a j = a + 1 := if_pos hlt
      have hk2 : ab (a + 1 - j) = k := (by unfold ab at hk ⊢; (repeat' split at hk) <;> (repeat' split) <;> omega)
      unfold sfm at hQ
      rw [en] at hQ
      refine x_iload_n (i := 16) (pc' := 30) rfl rfl rfl rfl ?_
      refine x_iload_n (i := 17) (pc' := 31) rfl rfl rfl rfl ?_
      refine x_icmpeq (i := 18) (pc' := 34) (tgt := 63) rfl rfl (by decide) ⟨by omega, by omega⟩ ⟨by omega, by omega⟩ (fun c1 => by exact absurd c1 e) (fun c1 => ?_)
      refine x_iload_n (i := 19) (pc' := 35) rfl rfl rfl rfl ?_
      refine x_iload_n (i := 20) (pc' := 36) rfl rfl rfl rfl ?_
      refine x_icmpge (i := 21) (pc' := 39) (tgt := 45) rfl rfl (by decide) ⟨by omega, by omega⟩ ⟨by omega, by omega⟩ (fun c2 => by exfalso; omega) (fun c2 => ?_)
      refine x_iload_n (i := 22) (pc' := 40) rfl rfl rfl rfl ?_
      refine x_iconst (i := 23) (pc' := 41) rfl rfl ?_
      refine x_iadd (i := 24) (pc' := 42) rfl rfl ?_
      refine x_goto (i := 25) (pc' := 48) rfl (by decide) ?_
      refine x_istore (L' := [some _, some _, some _, some _, some _]) (i := 29) (pc' := 50) rfl rfl rfl (by decide) rfl ?_
      refine x_aload_n (i := 30) (pc' := 51) rfl rfl rfl rfl ?_
      refine x_iload_n (i := 31) (pc' := 52) rfl rfl rfl rfl ?_
      refine x_iload (i := 32) (pc' := 54) rfl rfl rfl ?_
      refine m_callV (i := 33) (pc' := 57) (av := [_, _]) (rest := []) rfl rfl (by decide) lX12_183 (sh76 G) rfl rfl rfl rfl rfl (Nat.le_of_ble_eq_true rfl) (Nat.le_refl _) (Nat.le_refl _) (s_X12_swaps (by omega) (by omega) (by omega) ?_)
      dsimp only [psh]
      refine x_iload (i := 34) (pc' := 59) rfl rfl rfl ?_
      refine x_istore_n (L' := [some _, some _, some _, some _, some _]) (i := 35) (pc' := 60) rfl rfl rfl rfl (by decide) rfl ?_
      refine x_goto (i := 36) (pc' := 29) rfl (by decide) ?_
      exact ih (a + 1) _ _ hk2 (by omega) hQ
    · have en : nx a j = a - 1 := if_neg hlt
      have hk2 : ab (a - 1 - j) = k := (by unfold ab at hk ⊢; (repeat' split at hk) <;> (repeat' split) <;> omega)
      unfold sfm at hQ
      rw [en] at hQ
      refine x_iload_n (i := 16) (pc' := 30) rfl rfl rfl rfl ?_
      refine x_iload_n (i := 17) (pc' := 31) rfl rfl rfl rfl ?_
      refine x_icmpeq (i := 18) (pc' := 34) (tgt := 63) rfl rfl (by decide) ⟨by omega, by omega⟩ ⟨by omega, by omega⟩ (fun c1 => by exact absurd c1 e) (fun c1 => ?_)
      refine x_iload_n (i := 19) (pc' := 35) rfl rfl rfl rfl ?_
      refine x_iload_n (i := 20) (pc' := 36) rfl rfl rfl rfl ?_
      refine x_icmpge (i := 21) (pc' := 39) (tgt := 45) rfl rfl (by decide) ⟨by omega, by omega⟩ ⟨by omega, by omega⟩ (fun c2 => ?_) (fun c2 => by exfalso; omega)
      refine x_iload_n (i := 26) (pc' := 46) rfl rfl rfl rfl ?_
      refine x_iconst (i := 27) (pc' := 47) rfl rfl ?_
      refine x_isub (i := 28) (pc' := 48) rfl rfl ?_
      refine x_istore (L' := [some _, some _, some _, some _, some _]) (i := 29) (pc' := 50) rfl rfl rfl (by decide) rfl ?_
      refine x_aload_n (i := 30) (pc' := 51) rfl rfl rfl rfl ?_
      refine x_iload_n (i := 31) (pc' := 52) rfl rfl rfl rfl ?_
      refine x_iload (i := 32) (pc' := 54) rfl rfl rfl ?_
      refine m_callV (i := 33) (pc' := 57) (av := [_, _]) (rest := []) rfl rfl (by decide) lX12_183 (sh76 G) rfl rfl rfl rfl rfl (Nat.le_of_ble_eq_true rfl) (Nat.le_refl _) (Nat.le_refl _) (s_X12_swaps (by omega) (by omega) (by omega) ?_)
      dsimp only [psh]
      refine x_iload (i := 34) (pc' := 59) rfl rfl rfl ?_
      refine x_istore_n (L' := [some _, some _, some _, some _, some _]) (i := 35) (pc' := 60) rfl rfl rfl rfl (by decide) rfl ?_
      refine x_goto (i := 36) (pc' := 29) rfl (by decide) ?_
      exact ih (a - 1) _ _ hk2 (by omega) hQ
theorem s_X12_shifts {G : GG} {m : Mem} {Q : Option Value → Mem → Prop} {a b : Int} (h : GM m) (ra : rg a) (rb : rg b) (hQ : Q (some (.int (J (if (0 ≤ a ∧ a < m 77 1) ∧ (0 ≤ b ∧ b < m 77 1) then ab (a - b) else -2)))) (if (0 ≤ a ∧ a < m 77 1) ∧ (0 ≤ b ∧ b < m 77 1) then sfm b (ab (a - b)).toNat a (mdm m) else rfm m (-2))) : CM G 2 mX12_shifts [.ref (G.2.2.2 76), .int (J (a)), .int (J (b))] m Q := by
  refine CM.of dkX12_shifts (Or.inl rfl) [some _, some _, some _, none, none] rfl (Nat.le_of_ble_eq_true rfl) ?_
  obtain ⟨hM, ⟨hn, hc, hv, hst, hw, hwd, hpo⟩, hst5, hle, her⟩ := h
  have hn0 := hn.1; have hn1 := hn.2; have hc0 := hc.1; have hc1 := hc.2
  by_cases hcc : (0 ≤ a ∧ a < m 77 1) ∧ (0 ≤ b ∧ b < m 77 1)
  · rw [if_pos hcc, if_pos hcc] at hQ
    have hab := ab_le (x := a - b) (n := 16) (by omega)
    refine x_aload_n (i := 0) (pc' := 1) rfl rfl rfl rfl ?_
    refine x_iload_n (i := 1) (pc' := 2) rfl rfl rfl rfl ?_
    refine m_callV (i := 2) (pc' := 5) (av := [_]) (rest := []) rfl rfl (by decide) lX12_180 (sh76 G) rfl rfl rfl rfl rfl (Nat.le_of_ble_eq_true rfl) (Nat.le_refl _) (Nat.le_refl _) (s_X12_isWord hc (by assumption) ?_)
    dsimp only [psh]
    refine x_ifeq (i := 3) (pc' := 8) (tgt := 16) rfl rfl (by decide) (by (repeat' split at *) <;> omega) (fun c1 => by exfalso; (repeat' split at *) <;> omega) (fun c1 => ?_)
    refine x_aload_n (i := 4) (pc' := 9) rfl rfl rfl rfl ?_
    refine x_iload_n (i := 5) (pc' := 10) rfl rfl rfl rfl ?_
    refine m_callV (i := 6) (pc' := 13) (av := [_]) (rest := []) rfl rfl (by decide) lX12_180 (sh76 G) rfl rfl rfl rfl rfl (Nat.le_of_ble_eq_true rfl) (Nat.le_refl _) (Nat.le_refl _) (s_X12_isWord hc (by assumption) ?_)
    dsimp only [psh]
    refine x_ifne (i := 7) (pc' := 16) (tgt := 23) rfl rfl (by decide) (by (repeat' split at *) <;> omega) (fun c2 => ?_) (fun c2 => by exfalso; (repeat' split at *) <;> omega)
    refine x_aload_n (i := 12) (pc' := 24) rfl rfl rfl rfl ?_
    refine m_callV (i := 13) (pc' := 27) (av := []) (rest := []) rfl rfl (by decide) lX12_73 (sh76 G) rfl rfl rfl rfl rfl (Nat.le_of_ble_eq_true rfl) (Nat.le_refl _) (Nat.le_refl _) (s_X12_minds hst5 ?_)
    dsimp only [psh]
    refine x_iload_n (i := 14) (pc' := 28) rfl rfl rfl rfl ?_
    refine x_istore_n (L' := [some _, some _, some _, some _, none]) (i := 15) (pc' := 29) rfl rfl rfl rfl (by decide) rfl ?_
    have zlo : ∀ i, i < 140 → mdm m 77 i = m 77 i := fun i hi => mdm_lo hst5 hi
    have zM := mdm_MR hM hst5
    generalize mdm m = y at hQ zlo zM ⊢
    have z0 := zlo 0 (by decide); have z1 := zlo 1 (by decide)
    exact sf_loop (by omega) (by omega) (ab (a - b)).toNat a _ _ (by omega) (by omega) hQ
  · rw [if_neg hcc, if_neg hcc] at hQ
    refine x_aload_n (i := 0) (pc' := 1) rfl rfl rfl rfl ?_
    refine x_iload_n (i := 1) (pc' := 2) rfl rfl rfl rfl ?_
    refine m_callV (i := 2) (pc' := 5) (av := [_]) (rest := []) rfl rfl (by decide) lX12_180 (sh76 G) rfl rfl rfl rfl rfl (Nat.le_of_ble_eq_true rfl) (Nat.le_refl _) (Nat.le_refl _) (s_X12_isWord hc (by assumption) ?_)
    dsimp only [psh]
    refine x_ifeq (i := 3) (pc' := 8) (tgt := 16) rfl rfl (by decide) (by (repeat' split at *) <;> omega) (fun c1 => ?_) (fun c1 => ?_)
    · skip
      refine x_aload_n (i := 8) (pc' := 17) rfl rfl rfl rfl ?_
      refine x_bipush (i := 9) (pc' := 19) rfl rfl (by decide) ?_
      refine m_callV (i := 10) (pc' := 22) (av := [_]) (rest := []) rfl rfl (by decide) lX12_69 (sh76 G) rfl rfl rfl rfl rfl (Nat.le_of_ble_eq_true rfl) (Nat.le_refl _) (Nat.le_refl _) (s_X12_refuses (by omega) ?_)
      dsimp only [psh]
      exact m_ireturn (i := 11) rfl rfl (hQ)
    · skip
      refine x_aload_n (i := 4) (pc' := 9) rfl rfl rfl rfl ?_
      refine x_iload_n (i := 5) (pc' := 10) rfl rfl rfl rfl ?_
      refine m_callV (i := 6) (pc' := 13) (av := [_]) (rest := []) rfl rfl (by decide) lX12_180 (sh76 G) rfl rfl rfl rfl rfl (Nat.le_of_ble_eq_true rfl) (Nat.le_refl _) (Nat.le_refl _) (s_X12_isWord hc (by assumption) ?_)
      dsimp only [psh]
      refine x_ifne (i := 7) (pc' := 16) (tgt := 23) rfl rfl (by decide) (by (repeat' split at *) <;> omega) (fun c2 => ?_) (fun c2 => ?_)
      · skip
        exfalso; (repeat' split at *) <;> omega
      · skip
        refine x_aload_n (i := 8) (pc' := 17) rfl rfl rfl rfl ?_
        refine x_bipush (i := 9) (pc' := 19) rfl rfl (by decide) ?_
        refine m_callV (i := 10) (pc' := 22) (av := [_]) (rest := []) rfl rfl (by decide) lX12_69 (sh76 G) rfl rfl rfl rfl rfl (Nat.le_of_ble_eq_true rfl) (Nat.le_refl _) (Nat.le_refl _) (s_X12_refuses (by omega) ?_)
        dsimp only [psh]
        exact m_ireturn (i := 11) rfl rfl (hQ)
