theorem cu_lt {m : Mem} (h : 48 ≤ cu m) : 0 ≤ m 52 2 ∧ m 52 2 < m 52 1 := by
  unfold cu at h
  split at h
  · assumption
  · omega
theorem mv_1 (m : Mem) (p : Int) : stm m 52 2 p 52 1 = m 52 1 := stm_ix _ _ _ (by decide)
theorem pnp_le {m : Mem} (h : TX m) (hd : 48 ≤ cu m) : m 52 2 + 1 ≤ pnp m ∧ pnp m ≤ m 52 1 := by
  have h1 := cu_lt hd
  unfold pnp
  split
  · next hc =>
    have h2 := cu_lt hc.1
    rw [stm_eq, mv_1] at h2
    omega
  · omega
theorem pnv_le {m : Mem} (hd : 48 ≤ cu m ∧ cu m ≤ 57) : 0 ≤ pnv m ∧ pnv m ≤ 99 := by unfold pnv; split <;> omega
theorem pn_TX {m : Mem} (h : TX m) (hd : 48 ≤ cu m ∧ cu m ≤ 57) {n i : Int} (hi : 0 ≤ i ∧ i ≤ 5) : TX (pn m n i) := by
  have h1 := pnp_le h hd.1
  have h2 := pnv_le hd
  exact ((h.mv (by have := h.2.2; omega)).ot (by decide) (by omega)).ot (by decide) (by omega)
theorem s_X7_parseNumber {G : GG} {m : Mem} {Q : Option Value → Mem → Prop} {n i : Int} (h : TX m) (hd : 48 ≤ cu m ∧ cu m ≤ 57) (hn : 0 ≤ n ∧ n < 60) (hi : 0 ≤ i ∧ i ≤ 5) (hQ : Q (some (.int (J (if 48 ≤ cu (pn m n i) ∧ cu (pn m n i) ≤ 57 then 0 else 1)))) (pn m n i)) : CM G 3 mX7_parseNumber [.ref (G.2.2.2 52), .int (J (n)), .int (J (i))] m Q := by
  refine CM.of dkX7_parseNumber (Or.inl rfl) [some _, some _, some _, none] rfl (Nat.le_of_ble_eq_true rfl) ?_
  have hcu := cu_rg h.1
  have hlt := cu_lt hd.1
  have t1 := h.mv (p := m 52 2 + 1) (by omega)
  have hcu1 := cu_rg t1.1
  by_cases hc : 48 ≤ cu (stm m 52 2 (m 52 2 + 1)) ∧ cu (stm m 52 2 (m 52 2 + 1)) ≤ 57
  · have e1 : pnp m = m 52 2 + 1 + 1 := if_pos hc
    have e2 : pnv m = (cu m - 48) * 10 + cu (stm m 52 2 (m 52 2 + 1)) - 48 := if_pos hc
    have hlt1 := cu_lt hc.1
    rw [stm_eq, mv_1] at hlt1
    have t2 := pn_TX h hd (n := n) (i := i) (by omega)
    have hcu2 := cu_rg t2.1
    have e0 : (if 48 ≤ cu (stm m 52 2 (m 52 2 + 1)) ∧ cu (stm m 52 2 (m 52 2 + 1)) ≤ 57 then 1 else 0 : Int) = 1 := if_pos hc
    have e3 : stm (stm (stm (stm m 52 2 (m 52 2 + 1)) 52 2 (m 52 2 + 1 + 1)) 56 (n * 6 + i) ((cu m - 48) * 10 + cu (stm m 52 2 (m 52 2 + 1)) - 48)) 55 n (i + 1) = pn m n i := (by unfold pn; rw [e1, e2, stm_stm])
    refine x_aload_n (i := 0) (pc' := 1) rfl rfl rfl rfl ?_
    refine m_callV (i := 1) (pc' := 4) (av := []) (rest := []) rfl rfl (by decide) lX7_49 (sh52 G) rfl rfl rfl rfl rfl (Nat.le_of_ble_eq_true rfl) (Nat.le_refl _) (Nat.le_refl _) (s_X7_current (by first | exact h | exact t1) ?_)
    dsimp only [psh]
    refine x_bipush (i := 2) (pc' := 6) rfl rfl (by decide) ?_
    refine x_isub (i := 3) (pc' := 7) rfl rfl ?_
    refine x_istore_n (L' := [some _, some _, some _, some _]) (i := 4) (pc' := 8) rfl rfl rfl rfl (by decide) rfl ?_
    refine x_aload_n (i := 5) (pc' := 9) rfl rfl rfl rfl ?_
    refine x_dup (i := 6) (pc' := 10) rfl rfl rfl ?_
    refine m_getf (i := 7) (pc' := 13) rfl rfl flX7_19 (sh52 G) rfl rfl ?_
    refine x_iconst (i := 8) (pc' := 14) rfl rfl ?_
    refine x_iadd (i := 9) (pc' := 15) rfl rfl ?_
    refine m_putf (kz := 2) (i := 10) (pc' := 18) rfl rfl flX7_19 (sh52 G) (fun _ => rfl) rfl (Nat.le_of_ble_eq_true rfl) rfl rfl ?_
    refine x_aload_n (i := 11) (pc' := 19) rfl rfl rfl rfl ?_
    refine m_callV (i := 12) (pc' := 22) (av := []) (rest := []) rfl rfl (by decide) lX7_56 (sh52 G) rfl rfl rfl rfl rfl (Nat.le_of_ble_eq_true rfl) (Nat.le_refl _) (Nat.le_refl _) (s_X7_isAtDigit (by first | exact t2 | exact t1) ?_)
    dsimp only [psh]
    refine x_ifeq (i := 13) (pc' := 25) (tgt := 48) rfl rfl (by decide) (by (repeat' split at *) <;> omega) (fun c1 => by exfalso; omega) (fun c1 => ?_)
    refine x_iload_n (i := 14) (pc' := 26) rfl rfl rfl rfl ?_
    refine x_bipush (i := 15) (pc' := 28) rfl rfl (by decide) ?_
    refine x_imul (i := 16) (pc' := 29) rfl rfl ?_
    refine x_aload_n (i := 17) (pc' := 30) rfl rfl rfl rfl ?_
    refine m_callV (i := 18) (pc' := 33) (av := []) (rest := [_]) rfl rfl (by decide) lX7_49 (sh52 G) rfl rfl rfl rfl rfl (Nat.le_of_ble_eq_true rfl) (Nat.le_refl _) (Nat.le_refl _) (s_X7_current (by first | exact h | exact t1) ?_)
    dsimp only [psh]
    refine x_iadd (i := 19) (pc' := 34) rfl rfl ?_
    refine x_bipush (i := 20) (pc' := 36) rfl rfl (by decide) ?_
    refine x_isub (i := 21) (pc' := 37) rfl rfl ?_
    refine x_istore_n (L' := [some _, some _, some _, some _]) (i := 22) (pc' := 38) rfl rfl rfl rfl (by decide) rfl ?_
    refine x_aload_n (i := 23) (pc' := 39) rfl rfl rfl rfl ?_
    refine x_dup (i := 24) (pc' := 40) rfl rfl rfl ?_
    refine m_getf (i := 25) (pc' := 43) rfl rfl flX7_19 (sh52 G) rfl rfl ?_
    rw [stm_eq]
    refine x_iconst (i := 26) (pc' := 44) rfl rfl ?_
    refine x_iadd (i := 27) (pc' := 45) rfl rfl ?_
    refine m_putf (kz := 2) (i := 28) (pc' := 48) rfl rfl flX7_19 (sh52 G) (fun _ => rfl) rfl (Nat.le_of_ble_eq_true rfl) rfl rfl ?_
    refine x_aload_n (i := 29) (pc' := 49) rfl rfl rfl rfl ?_
    refine m_getf (i := 30) (pc' := 52) rfl rfl flX7_28 (sh52 G) rfl rfl ?_
    refine x_iload_n (i := 31) (pc' := 53) rfl rfl rfl rfl ?_
    refine x_bipush (i := 32) (pc' := 55) rfl rfl (by decide) ?_
    refine x_imul (i := 33) (pc' := 56) rfl rfl ?_
    refine x_iload_n (i := 34) (pc' := 57) rfl rfl rfl rfl ?_
    refine x_iadd (i := 35) (pc' := 58) rfl rfl ?_
    refine x_iload_n (i := 36) (pc' := 59) rfl rfl rfl rfl ?_
    refine m_iast (i := 37) (pc' := 60) rfl rfl (sh56 G) (by decide) ⟨by omega, by omega⟩ ?_
    refine x_aload_n (i := 38) (pc' := 61) rfl rfl rfl rfl ?_
    refine m_getf (i := 39) (pc' := 64) rfl rfl flX7_25 (sh52 G) rfl rfl ?_
    refine x_iload_n (i := 40) (pc' := 65) rfl rfl rfl rfl ?_
    refine x_iload_n (i := 41) (pc' := 66) rfl rfl rfl rfl ?_
    refine x_iconst (i := 42) (pc' := 67) rfl rfl ?_
    refine x_iadd (i := 43) (pc' := 68) rfl rfl ?_
    refine m_iast (i := 44) (pc' := 69) rfl rfl (sh55 G) (by decide) ⟨by omega, by omega⟩ ?_
    rw [e3]
    refine x_aload_n (i := 45) (pc' := 70) rfl rfl rfl rfl ?_
    refine m_callV (i := 46) (pc' := 73) (av := []) (rest := []) rfl rfl (by decide) lX7_56 (sh52 G) rfl rfl rfl rfl rfl (Nat.le_of_ble_eq_true rfl) (Nat.le_refl _) (Nat.le_refl _) (s_X7_isAtDigit (by first | exact t2 | exact t1) ?_)
    dsimp only [psh]
    refine x_ifne (i := 47) (pc' := 76) (tgt := 80) rfl rfl (by decide) (by (repeat' split at *) <;> omega) (fun c2 => ?_) (fun c2 => ?_)
    · skip
      refine x_iconst (i := 50) (pc' := 81) rfl rfl ?_
      exact m_zreturn (i := 51) rfl rfl (by omega) (by (repeat' split at hQ) <;> first | exact hQ | (exfalso; omega))
    · skip
      refine x_iconst (i := 48) (pc' := 77) rfl rfl ?_
      refine x_goto (i := 49) (pc' := 81) rfl (by decide) ?_
      exact m_zreturn (i := 51) rfl rfl (by omega) (by (repeat' split at hQ) <;> first | exact hQ | (exfalso; omega))
  · have e1 : pnp m = m 52 2 + 1 := if_neg hc
    have e2 : pnv m = cu m - 48 := if_neg hc
    have t2 := pn_TX h hd (n := n) (i := i) (by omega)
    have hcu2 := cu_rg t2.1
    have e0 : (if 48 ≤ cu (stm m 52 2 (m 52 2 + 1)) ∧ cu (stm m 52 2 (m 52 2 + 1)) ≤ 57 then 1 else 0 : Int) = 0 := if_neg hc
    have e3 : stm (stm (stm m 52 2 (m 52 2 + 1)) 56 (n * 6 + i) (cu m - 48)) 55 n (i + 1) = pn m n i := (by unfold pn; rw [e1, e2])
    refine x_aload_n (i := 0) (pc' := 1) rfl rfl rfl rfl ?_
    refine m_callV (i := 1) (pc' := 4) (av := []) (rest := []) rfl rfl (by decide) lX7_49 (sh52 G) rfl rfl rfl rfl rfl (Nat.le_of_ble_eq_true rfl) (Nat.le_refl _) (Nat.le_refl _) (s_X7_current (by first | exact h | exact t1) ?_)
    dsimp only [psh]
    refine x_bipush (i := 2) (pc' := 6) rfl rfl (by decide) ?_
    refine x_isub (i := 3) (pc' := 7) rfl rfl ?_
    refine x_istore_n (L' := [some _, some _, some _, some _]) (i := 4) (pc' := 8) rfl rfl rfl rfl (by decide) rfl ?_
    refine x_aload_n (i := 5) (pc' := 9) rfl rfl rfl rfl ?_
    refine x_dup (i := 6) (pc' := 10) rfl rfl rfl ?_
    refine m_getf (i := 7) (pc' := 13) rfl rfl flX7_19 (sh52 G) rfl rfl ?_
    refine x_iconst (i := 8) (pc' := 14) rfl rfl ?_
    refine x_iadd (i := 9) (pc' := 15) rfl rfl ?_
    refine m_putf (kz := 2) (i := 10) (pc' := 18) rfl rfl flX7_19 (sh52 G) (fun _ => rfl) rfl (Nat.le_of_ble_eq_true rfl) rfl rfl ?_
    refine x_aload_n (i := 11) (pc' := 19) rfl rfl rfl rfl ?_
    refine m_callV (i := 12) (pc' := 22) (av := []) (rest := []) rfl rfl (by decide) lX7_56 (sh52 G) rfl rfl rfl rfl rfl (Nat.le_of_ble_eq_true rfl) (Nat.le_refl _) (Nat.le_refl _) (s_X7_isAtDigit (by first | exact t2 | exact t1) ?_)
    dsimp only [psh]
    refine x_ifeq (i := 13) (pc' := 25) (tgt := 48) rfl rfl (by decide) (by (repeat' split at *) <;> omega) (fun c1 => ?_) (fun c1 => by exfalso; omega)
    refine x_aload_n (i := 29) (pc' := 49) rfl rfl rfl rfl ?_
    refine m_getf (i := 30) (pc' := 52) rfl rfl flX7_28 (sh52 G) rfl rfl ?_
    refine x_iload_n (i := 31) (pc' := 53) rfl rfl rfl rfl ?_
    refine x_bipush (i := 32) (pc' := 55) rfl rfl (by decide) ?_
    refine x_imul (i := 33) (pc' := 56) rfl rfl ?_
    refine x_iload_n (i := 34) (pc' := 57) rfl rfl rfl rfl ?_
    refine x_iadd (i := 35) (pc' := 58) rfl rfl ?_
    refine x_iload_n (i := 36) (pc' := 59) rfl rfl rfl rfl ?_
    refine m_iast (i := 37) (pc' := 60) rfl rfl (sh56 G) (by decide) ⟨by omega, by omega⟩ ?_
    refine x_aload_n (i := 38) (pc' := 61) rfl rfl rfl rfl ?_
    refine m_getf (i := 39) (pc' := 64) rfl rfl flX7_25 (sh52 G) rfl rfl ?_
    refine x_iload_n (i := 40) (pc' := 65) rfl rfl rfl rfl ?_
    refine x_iload_n (i := 41) (pc' := 66) rfl rfl rfl rfl ?_
    refine x_iconst (i := 42) (pc' := 67) rfl rfl ?_
    refine x_iadd (i := 43) (pc' := 68) rfl rfl ?_
    refine m_iast (i := 44) (pc' := 69) rfl rfl (sh55 G) (by decide) ⟨by omega, by omega⟩ ?_
    rw [e3]
    refine x_aload_n (i := 45) (pc' := 70) rfl rfl rfl rfl ?_
    refine m_callV (i := 46) (pc' := 73) (av := []) (rest := []) rfl rfl (by decide) lX7_56 (sh52 G) rfl rfl rfl rfl rfl (Nat.le_of_ble_eq_true rfl) (Nat.le_refl _) (Nat.le_refl _) (s_X7_isAtDigit (by first | exact t2 | exact t1) ?_)
    dsimp only [psh]
    refine x_ifne (i := 47) (pc' := 76) (tgt := 80) rfl rfl (by decide) (by (repeat' split at *) <;> omega) (fun c2 => ?_) (fun c2 => ?_)
    · skip
      refine x_iconst (i := 50) (pc' := 81) rfl rfl ?_
      exact m_zreturn (i := 51) rfl rfl (by omega) (by (repeat' split at hQ) <;> first | exact hQ | (exfalso; omega))
    · skip
      refine x_iconst (i := 48) (pc' := 77) rfl rfl ?_
      refine x_goto (i := 49) (pc' := 81) rfl (by decide) ?_
      exact m_zreturn (i := 51) rfl rfl (by omega) (by (repeat' split at hQ) <;> first | exact hQ | (exfalso; omega))
