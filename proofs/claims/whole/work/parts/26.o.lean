theorem cu_lt {m : Mem} (h : 48 ≤ cu m) : 0 ≤ m 52 2 ∧ m 52 2 < m 52 1 := by
  unfold cu at h
  split at h
  · assumption
  · omega
theorem mv_1 (m : Mem) (p : Int) : stm m 52 2 p 52 1 = m 52 1 := stm_ix _ _ _ (by decide)
theorem pnp_le {m : Mem} (h : TX m) (hd : 48 ≤ cu m) : m 52 2 + 1 ≤ pnp m ∧ pnp m ≤ m 52 1 := by
  have h1 := cu_lt hd
  unfold pnp
  split
  · next hc =>
    have h2 := cu_lt hc.1
    rw [stm_eq, mv_1] at h2
    omega
  · omega
theorem pnv_le {m : Mem} (hd : 48 ≤ cu m ∧ cu m ≤ 57) : 0 ≤ pnv m ∧ pnv m ≤ 99 := by unfold pnv; split <;> omega
theorem pn_TX {m : Mem} (h : TX m) (hd : 48 ≤ cu m ∧ cu m ≤ 57) {n i : Int} (hi : 0 ≤ i ∧ i ≤ 5) : TX (pn m n i) := by
  have h1 := pnp_le h hd.1
  have h2 := pnv_le hd
  exact ((h.mv (by have := h.2.2; omega)).ot (by decide) (by omega)).ot (by decide) (by omega)
theorem s_X7_parseNumber {G : GG} {m : Mem} {Q : Option Value → Mem → Prop} {n i : Int} (h : TX m) (hd : 48 ≤ cu m ∧ cu m ≤ 57) (hn : 0 ≤ n ∧ n < 60) (hi : 0 ≤ i ∧ i ≤ 5) (hQ : Q (some (.int (J (if 48 ≤ cu (pn m n i) ∧ cu (pn m n i) ≤ 57 then 0 else 1)))) (pn m n i)) : CM G 3 mX7_parseNumber [.ref (G.2.2.2 52), .int (J (n)), .int (J (i))] m Q := by
  refine CM.of dkX7_parseNumber (Or.inl rfl) [some _, some _, some _, none] rfl (Nat.le_of_ble_eq_true rfl) ?_
  have hcu := cu_rg h.1
  have hlt := cu_lt hd.1
  have t1 := h.mv (p := m 52 2 + 1) (by omega)
  have hcu1 := cu_rg t1.1
  by_cases hc : 48 ≤ cu (stm m 52 2 (m 52 2 + 1)) ∧ cu (stm m 52 2 (m 52 2 + 1)) ≤ 57
  · have e1 : pnp m = m 52 2 + 1 + 1 := if_pos hc
    have e2 : pnv m = (cu m - 48) * 10 + cu (stm m 52 2 (m 52 2 + 1)) - 48 := if_pos hc
    have hlt1 := cu_lt hc.1
    rw [stm_eq, mv_1] at hlt1
    have t2 := pn_TX h hd (n := n) (i := i) (by omega)
    have hcu2 := cu_rg t2.1
    have e0 : (if 48 ≤ cu (stm m 52 2 (m 52 2 + 1)) ∧ cu (stm m 52 2 (m 52 2 + 1)) ≤ 57 then 1 else 0 : Int) = 1 := if_pos hc
    have e3 : stm (stm (stm (stm m 52 2 (m 52 2 + 1)) 52 2 (m 52 2 + 1 + 1)) 56 (n * 6 + i) ((cu m - 48) * 10 + cu (stm m 52 2 (m 52 2 + 1)) - 48)) 55 n (i + 1) = pn m n i := (by unfold pn; rw [e1, e2, stm_stm])
    refine x_aload_n (i := 0) (pc' := 1) rfl rfl rfl rfl ?_
    refine m_callV (i := 1) (pc' := 4) (av := []) (rest := []) rfl rfl (by decide) lX7_49 (sh52 G) rfl rfl rfl rfl rfl (Nat.le_of_ble_eq_true rfl) (Nat.le_refl _) (Nat.le_refl _) (s_X7_current (by first | exact h | exact t1) ?_)
    dsimp only [psh]
    refine x_bipush (i := 2) (pc' := 6) rfl rfl (by decide) ?_
    refine x_isub (i := 3) (pc' := 7) rfl rfl ?_
    refine x_istore_n (L' := [some _, some _, some _, some _]) (i := 4) (pc' := 8) rfl rfl rfl rfl (by decide) rfl ?_
    refine x_aload_n (i := 5) (pc' := 9) rfl rfl rfl rfl ?_
    refine x_dup (i := 6) (pc' := 10) rfl rfl rfl ?_
    refine m_getf (i := 7) (pc' := 13) rfl rfl flX7_19 (sh52 G) rfl rfl ?_
    refine x_iconst (i := 8) (pc' := 14) rfl rfl ?_
    refine x_iadd (i := 9) (pc' := 15) rfl rfl ?_
    refine m_putf (kz := 2) (i := 10) (pc' := 18) rfl rfl flX7_19 (sh52 G) (fun _ => rfl) rfl (Nat.le_of_ble_eq_true rfl) rfl rfl ?_
    refine x_aload_n (i := 11) (pc' := 19) rfl rfl rfl rfl ?_
    refine m_callV (i := 12) (pc' := 22) (av := []) (rest := []) rfl rfl (by decide) lX7_56 (sh52 G) rfl rfl rfl rfl rfl (Nat.le_of_ble_eq_true rfl) (Nat.le_refl _) (Nat.le_refl _) (s_X7_isAtDigit (by first | exact t2 | exact t1) ?_)
    dsimp only [psh]
    refine x_ifeq (i := 13) (pc' := 25) (tgt := 48) rfl rfl (by decide) (by (repeat' split at *) <;> omega) (fun c1 => by exfalso; omega) (fun c1 => ?_)
    refine x_iload_n (i := 14) (pc' := 26) rfl rfl rfl rfl ?_
    refine x_bipush (i := 15) (pc' := 28) rfl rfl (by decide) ?_
    refine x_imul (i := 16) (pc' := 29) rfl rfl ?_
    refine x_aload_n (i := 17) (pc' := 30) rfl rfl rfl rfl ?_
    refine m_callV (i := 18) (pc' := 33) (av := []) (rest := [_]) rfl rfl (by decide) lX7_49 (sh52 G) rfl rfl rfl rfl rfl (Nat.le_of_ble_eq_true rfl) (Nat.le_refl _) (Nat.le_refl _) (s_X7_current (by first | exact h | exact t1) ?_)
    dsimp only [psh]
    refine x_iadd (i := 19) (pc' := 34) rfl rfl ?_
    refine x_bipush (i := 20) (pc' := 36) rfl rfl (by decide) ?_
    refine x_isub (i := 21) (pc' := 37) rfl rfl ?_
    refine x_istore_n (L' := [some _, some _, some _, some _]) (i := 22) (pc' := 38) rfl rfl rfl rfl (by decide) rfl ?_
    refine x_aload_n (i := 23) (pc' := 39) rfl rfl rfl rfl ?_
    refine x_dup (i := 24) (pc' := 40) rfl rfl rfl ?_
    refine m_getf (i := 25) (pc' := 43) rfl rfl flX7_19 (sh52 G) rfl rfl ?_
    rw [stm_eq]
    refine x_iconst (i := 26) (pc' := 44) rfl rfl ?_
    refine x_iadd (i := 27) (pc' := 45) rfl rfl ?_
    refine m_putf (kz := 2) (i := 28) (pc' := 48) rfl rfl flX7_19 (sh52 G) (fun _ => rfl) rfl (Nat.le_of_ble_eq_true rfl) rfl rfl ?_
    refine x_aload_n (i := 29) (pc' := 49) rfl rfl rfl rfl ?_
    refine m_getf (i := 30) (pc' := 52) rfl rfl flX7_28 (sh52 G) rfl rfl ?_
    refine x_iload_n (i := 31) (pc' := 53) rfl rfl rfl rfl ?_
    refine x_bipush (i := 32) (pc' := 55) rfl rfl (by decide) ?_
    refine x_imul (i := 33) (pc' := 56) rfl rfl ?_
    refine x_iload_n (i := 34) (pc' := 57) rfl rfl rfl rfl ?_
    refine x_iadd (i := 35) (pc' := 58) rfl rfl ?_
    refine x_iload_n (i := 36) (pc' := 59) rfl rfl rfl rfl ?_
    refine m_iast (i := 37) (pc' := 60) rfl rfl (sh56 G) (by decide) ⟨by omega, by omega⟩ ?_
    refine x_aload_n (i := 38) (pc' := 61) rfl rfl rfl rfl ?_
    refine m_getf (i := 39) (pc' := 64) rfl rfl flX7_25 (sh52 G) rfl rfl ?_
    refine x_iload_n (i := 40) (pc' := 65) rfl rfl rfl rfl ?_
    refine x_iload_n (i := 41) (pc' := 66) rfl rfl rfl rfl ?_
    refine x_iconst (i := 42) (pc' := 67) rfl rfl ?_
    refine x_iadd (i := 43) (pc' := 68) rfl rfl ?_
    refine m_iast (i := 44) (pc' := 69) rfl rfl (sh55 G) (by decide) ⟨by omega, by omega⟩ ?_
    rw [e3]
    refine x_aload_n (i := 45) (pc' := 70) rfl rfl rfl rfl ?_
    refine m_callV (i := 46) (pc' := 73) (av := []) (rest := []) rfl rfl (by decide) lX7_56 (sh52 G) rfl rfl rfl rfl rfl (Nat.le_of_ble_eq_true rfl) (Nat.le_refl _) (Nat.le_refl _) (s_X7_isAtDigit (by first | exact t2 | exact t1) ?_)
    dsimp only [psh]
    refine x_ifne (i := 47) (pc' := 76) (tgt := 80) rfl rfl (by decide) (by (repeat' split at *) <;> omega) (fun c2 => ?_) (fun c2 => ?_)
    · skip
      refine x_iconst (i := 50) (pc' := 81) rfl rfl ?_
      exact m_zreturn (i := 51) rfl rfl (by omega) (by (repeat' split at hQ) <;> first | exact hQ | (exfalso; omega))
    · skip
      refine x_iconst (i := 48) (pc' := 77) rfl rfl ?_
      refine x_goto (i := 49) (pc' := 81) rfl (by decide) ?_
      exact m_zreturn (i := 51) rfl rfl (by omega) (by (repeat' split at hQ) <;> first | exact hQ | (exfalso; omega))
  · have e1 : pnp m = m 52 2 + 1 := if_neg hc
    have e2 : pnv m = cu m - 48 := if_neg hc
    have t2 := pn_TX h hd (n := n) (i := i) (by omega)
    have hcu2 := cu_rg t2.1
    have e0 : (if 48 ≤ cu (stm m 52 2 (m 52 2 + 1)) ∧ cu (stm m 52 2 (m 52 2 + 1)) ≤ 57 then 1 else 0 : Int) = 0 := if_neg hc
    have e3 : stm (stm (stm m 52 2 (m 52 2 + 1)) 56 (n * 6 + i) (cu m - 48)) 55 n (i + 1) = pn m n i := (by unfold pn; rw [e1, e2])
    refine x_aload_n (i := 0) (pc' := 1) rfl rfl rfl rfl ?_
    refine m_callV (i := 1) (pc' := 4) (av := []) (rest := []) rfl rfl (by decide) lX7_49 (sh52 G) rfl rfl rfl rfl rfl (Nat.le_of_ble_eq_true rfl) (Nat.le_refl _) (Nat.le_refl _) (s_X7_current (by first | exact h | exact t1) ?_)
    dsimp only [psh]
    refine x_bipush (i := 2) (pc' := 6) rfl rfl (by decide) ?_
    refine x_isub (i := 3) (pc' := 7) rfl rfl ?_
    refine x_istore_n (L' := [some _, some _, some _, some _]) (i := 4) (pc' := 8) rfl rfl rfl rfl (by decide) rfl ?_
    refine x_aload_n (i := 5) (pc' := 9) rfl rfl rfl rfl ?_
    refine x_dup (i := 6) (pc' := 10) rfl rfl rfl ?_
    refine m_getf (i := 7) (pc' := 13) rfl rfl flX7_19 (sh52 G) rfl rfl ?_
    refine x_iconst (i := 8) (pc' := 14) rfl rfl ?_
    refine x_iadd (i := 9) (pc' := 15) rfl rfl ?_
    refine m_putf (kz := 2) (i := 10) (pc' := 18) rfl rfl flX7_19 (sh52 G) (fun _ => rfl) rfl (Nat.le_of_ble_eq_true rfl) rfl rfl ?_
    refine x_aload_n (i := 11) (pc' := 19) rfl rfl rfl rfl ?_
    refine m_callV (i := 12) (pc' := 22) (av := []) (rest := []) rfl rfl (by decide) lX7_56 (sh52 G) rfl rfl rfl rfl rfl (Nat.le_of_ble_eq_true rfl) (Nat.le_refl _) (Nat.le_refl _) (s_X7_isAtDigit (by first | exact t2 | exact t1) ?_)
    dsimp only [psh]
    refine x_ifeq (i := 13) (pc' := 25) (tgt := 48) rfl rfl (by decide) (by (repeat' split at *) <;> omega) (fun c1 => ?_) (fun c1 => by exfalso; omega)
    refine x_aload_n (i := 29) (pc' := 49) rfl rfl rfl rfl ?_
    refine m_getf (i := 30) (pc' := 52) rfl rfl flX7_28 (sh52 G) rfl rfl ?_
    refine x_iload_n (i := 31) (pc' := 53) rfl rfl rfl rfl ?_
    refine x_bipush (i := 32) (pc' := 55) rfl rfl (by decide) ?_
    refine x_imul (i := 33) (pc' := 56) rfl rfl ?_
    refine x_iload_n (i := 34) (pc' := 57) rfl rfl rfl rfl ?_
    refine x_iadd (i := 35) (pc' := 58) rfl rfl ?_
    refine x_iload_n (i := 36) (pc' := 59) rfl rfl rfl rfl ?_
    refine m_iast (i := 37) (pc' := 60) rfl rfl (sh56 G) (by decide) ⟨by omega, by omega⟩ ?_
    refine x_aload_n (i := 38) (pc' := 61) rfl rfl rfl rfl ?_
    refine m_getf (i := 39) (pc' := 64) rfl rfl flX7_25 (sh52 G) rfl rfl ?_
    refine x_iload_n (i := 40) (pc' := 65) rfl rfl rfl rfl ?_
    refine x_iload_n (i := 41) (pc' := 66) rfl rfl rfl rfl ?_
    refine x_iconst (i := 42) (pc' := 67) rfl rfl ?_
    refine x_iadd (i := 43) (pc' := 68) rfl rfl ?_
    refine m_iast (i := 44) (pc' := 69) rfl rfl (sh55 G) (by decide) ⟨by omega, by omega⟩ ?_
    rw [e3]
    refine x_aload_n (i := 45) (pc' := 70) rfl rfl rfl rfl ?_
    refine m_callV (i := 46) (pc' := 73) (av := []) (rest := []) rfl rfl (by decide) lX7_56 (sh52 G) rfl rfl rfl rfl rfl (Nat.le_of_ble_eq_true rfl) (Nat.le_refl _) (Nat.le_refl _) (s_X7_isAtDigit (by first | exact t2 | exact t1) ?_)
    dsimp only [psh]
    refine x_ifne (i := 47) (pc' := 76) (tgt := 80) rfl rfl (by decide) (by (repeat' split at *) <;> omega) (fun c2 => ?_) (fun c2 => ?_)
    · skip
      refine x_iconst (i := 50) (pc' := 81) rfl rfl ?_
      exact m_zreturn (i := 51) rfl rfl (by omega) (by (repeat' split at hQ) <;> first | exact hQ | (exfalso; omega))
    · skip
      refine x_iconst (i := 48) (pc' := 77) rfl rfl ?_
      refine x_goto (i := 49) (pc' := 81) rfl (by decide) ?_
      exact m_zreturn (i := 51) rfl rfl (by omega) (by (repeat' split at hQ) <;> first | exact hQ | (exfalso; omega))
theorem po_tail {G : GG} {Q : Option Value → Mem → Prop} {n w f i : Int} {x : Mem} (hx : TX x) (hn : 0 ≤ n ∧ n < 60) (hf : rg f) (hQ : Q (some (.int (J (pfn f n 1 x).1))) (pfn f n 1 x).2) : BW G 4 mX7_parseOrder Q 99 [some (.ref (G.2.2.2 52)), some (.int (J (n))), some (.int (J (w))), some (.int (J (f))), some (.int (J (i)))] [] x := by
  have hcu := cu_rg hx.1
  have hc55 := hx.1 55 n
  refine x_aload_n (i := 55) (pc' := 100) rfl rfl rfl rfl ?_
  refine m_callV (i := 56) (pc' := 103) (av := []) (rest := []) rfl rfl (by decide) lX7_49 (sh52 G) rfl rfl rfl rfl rfl (Nat.le_of_ble_eq_true rfl) (Nat.le_refl _) (Nat.le_refl _) (s_X7_current hx ?_)
  dsimp only [psh]
  refine x_bipush (i := 57) (pc' := 105) rfl rfl (by decide) ?_
  refine x_icmpne (i := 58) (pc' := 108) (tgt := 118) rfl rfl (by decide) (by first | omega | exact hx.1 _ _) (by first | omega | exact hx.1 _ _) (fun t1 => ?_) (fun t1 => ?_)
  · skip
    refine x_iconst (i := 65) (pc' := 119) rfl rfl ?_
    exact m_zreturn (i := 66) rfl rfl (by omega) (by unfold pfn at hQ; (repeat' split at hQ) <;> first | exact hQ | (exfalso; omega))
  · skip
    refine x_aload_n (i := 59) (pc' := 109) rfl rfl rfl rfl ?_
    refine m_getf (i := 60) (pc' := 112) rfl rfl flX7_25 (sh52 G) rfl rfl ?_
    refine x_iload_n (i := 61) (pc' := 113) rfl rfl rfl rfl ?_
    refine m_iald (i := 62) (pc' := 114) rfl rfl (sh55 G) (by decide) ⟨by omega, by omega⟩ ?_
    refine x_iload_n (i := 63) (pc' := 115) rfl rfl rfl rfl ?_
    refine x_icmpge (i := 64) (pc' := 118) (tgt := 120) rfl rfl (by decide) (by first | omega | exact hx.1 _ _) (by first | omega | exact hx.1 _ _) (fun t2 => ?_) (fun t2 => ?_)
    · skip
      refine x_aload_n (i := 67) (pc' := 121) rfl rfl rfl rfl ?_
      refine x_dup (i := 68) (pc' := 122) rfl rfl rfl ?_
      refine m_getf (i := 69) (pc' := 125) rfl rfl flX7_19 (sh52 G) rfl rfl ?_
      refine x_iconst (i := 70) (pc' := 126) rfl rfl ?_
      refine x_iadd (i := 71) (pc' := 127) rfl rfl ?_
      refine m_putf (kz := 2) (i := 72) (pc' := 130) rfl rfl flX7_19 (sh52 G) (fun _ => rfl) rfl (Nat.le_of_ble_eq_true rfl) rfl rfl ?_
      refine x_iconst (i := 73) (pc' := 131) rfl rfl ?_
      exact m_zreturn (i := 74) rfl rfl (by omega) (by unfold pfn at hQ; (repeat' split at hQ) <;> first | exact hQ | (exfalso; omega))
    · skip
      refine x_iconst (i := 65) (pc' := 119) rfl rfl ?_
      exact m_zreturn (i := 66) rfl rfl (by omega) (by unfold pfn at hQ; (repeat' split at hQ) <;> first | exact hQ | (exfalso; omega))
theorem po_loop {G : GG} {Q : Option Value → Mem → Prop} {n w f : Int} (hn : 0 ≤ n ∧ n < 60) (hf : rg f) (hw : w ≤ 6) : ∀ (k : Nat) (i : Int) (x : Mem), i + k = w → 0 ≤ i → TX x → Q (some (.int (J (pfn f n (nl n k i x).1 (nl n k i x).2).1))) (pfn f n (nl n k i x).1 (nl n k i x).2).2 → BW G 4 mX7_parseOrder Q 64 [some (.ref (G.2.2.2 52)), some (.int (J (n))), some (.int (J (w))), some (.int (J (f))), some (.int (J (i)))] [] x := by
  intro k
  induction k with
  | zero =>
    intro i x hk h0 hx hQ
    refine x_iload (i := 38) (pc' := 66) rfl rfl rfl ?_
    refine x_iload_n (i := 39) (pc' := 67) rfl rfl rfl rfl ?_
    refine x_icmpge (i := 40) (pc' := 70) (tgt := 99) rfl rfl (by decide) ⟨by omega, by omega⟩ ⟨by omega, by omega⟩ (fun c1 => ?_) (fun c1 => by exfalso; omega)
    exact po_tail hx hn hf hQ
  | succ k ih =>
    intro i x hk h0 hx hQ
    have hcu := cu_rg hx.1
    by_cases hd : 48 ≤ cu x ∧ cu x ≤ 57
    · have e0 : (if 48 ≤ cu x ∧ cu x ≤ 57 then 1 else 0 : Int) = 1 := if_pos hd
      have t2 := pn_TX hx hd (n := n) (i := i) (by omega)
      unfold nl at hQ
      rw [if_pos hd] at hQ
      by_cases hb : 48 ≤ cu (pn x n i) ∧ cu (pn x n i) ≤ 57
      · have e1 : (if 48 ≤ cu (pn x n i) ∧ cu (pn x n i) ≤ 57 then 0 else 1 : Int) = 0 := if_pos hb
        rw [if_pos hb] at hQ
        refine x_iload (i := 38) (pc' := 66) rfl rfl rfl ?_
        refine x_iload_n (i := 39) (pc' := 67) rfl rfl rfl rfl ?_
        refine x_icmpge (i := 40) (pc' := 70) (tgt := 99) rfl rfl (by decide) (by first | omega | (split <;> omega)) (by first | omega | (split <;> omega)) (fun c1 => by exfalso; omega) (fun c1 => ?_)
        refine x_aload_n (i := 41) (pc' := 71) rfl rfl rfl rfl ?_
        refine m_callV (i := 42) (pc' := 74) (av := []) (rest := []) rfl rfl (by decide) lX7_56 (sh52 G) rfl rfl rfl rfl rfl (Nat.le_of_ble_eq_true rfl) (Nat.le_refl _) (Nat.le_refl _) (s_X7_isAtDigit hx ?_)
        dsimp only [psh]
        refine x_ifeq (i := 43) (pc' := 77) (tgt := 99) rfl rfl (by decide) (by first | omega | (split <;> omega)) (fun c2 => by exfalso; omega) (fun c2 => ?_)
        refine x_aload_n (i := 44) (pc' := 78) rfl rfl rfl rfl ?_
        refine x_iload_n (i := 45) (pc' := 79) rfl rfl rfl rfl ?_
        refine x_iload (i := 46) (pc' := 81) rfl rfl rfl ?_
        refine m_callV (i := 47) (pc' := 84) (av := [_, _]) (rest := []) rfl rfl (by decide) lX7_60 (sh52 G) rfl rfl rfl rfl rfl (Nat.le_of_ble_eq_true rfl) (Nat.le_refl _) (Nat.le_refl _) (s_X7_parseNumber hx hd (by omega) (by omega) ?_)
        dsimp only [psh]
        refine x_ifne (i := 48) (pc' := 87) (tgt := 89) rfl rfl (by decide) (by first | omega | (split <;> omega)) (fun c3 => by exfalso; omega) (fun c3 => ?_)
        refine x_iconst (i := 49) (pc' := 88) rfl rfl ?_
        exact m_zreturn (i := 50) rfl rfl (by omega) (hQ)
      · have e1 : (if 48 ≤ cu (pn x n i) ∧ cu (pn x n i) ≤ 57 then 0 else 1 : Int) = 1 := if_neg hb
        rw [if_neg hb] at hQ
        refine x_iload (i := 38) (pc' := 66) rfl rfl rfl ?_
        refine x_iload_n (i := 39) (pc' := 67) rfl rfl rfl rfl ?_
        refine x_icmpge (i := 40) (pc' := 70) (tgt := 99) rfl rfl (by decide) (by first | omega | (split <;> omega)) (by first | omega | (split <;> omega)) (fun c1 => by exfalso; omega) (fun c1 => ?_)
        refine x_aload_n (i := 41) (pc' := 71) rfl rfl rfl rfl ?_
        refine m_callV (i := 42) (pc' := 74) (av := []) (rest := []) rfl rfl (by decide) lX7_56 (sh52 G) rfl rfl rfl rfl rfl (Nat.le_of_ble_eq_true rfl) (Nat.le_refl _) (Nat.le_refl _) (s_X7_isAtDigit hx ?_)
        dsimp only [psh]
        refine x_ifeq (i := 43) (pc' := 77) (tgt := 99) rfl rfl (by decide) (by first | omega | (split <;> omega)) (fun c2 => by exfalso; omega) (fun c2 => ?_)
        refine x_aload_n (i := 44) (pc' := 78) rfl rfl rfl rfl ?_
        refine x_iload_n (i := 45) (pc' := 79) rfl rfl rfl rfl ?_
        refine x_iload (i := 46) (pc' := 81) rfl rfl rfl ?_
        refine m_callV (i := 47) (pc' := 84) (av := [_, _]) (rest := []) rfl rfl (by decide) lX7_60 (sh52 G) rfl rfl rfl rfl rfl (Nat.le_of_ble_eq_true rfl) (Nat.le_refl _) (Nat.le_refl _) (s_X7_parseNumber hx hd (by omega) (by omega) ?_)
        dsimp only [psh]
        refine x_ifne (i := 48) (pc' := 87) (tgt := 89) rfl rfl (by decide) (by first | omega | (split <;> omega)) (fun c3 => ?_) (fun c3 => by exfalso; omega)
        refine x_aload_n (i := 51) (pc' := 90) rfl rfl rfl rfl ?_
        refine m_callV (i := 52) (pc' := 93) (av := []) (rest := []) rfl rfl (by decide) lX7_42 (sh52 G) rfl rfl rfl rfl rfl (Nat.le_of_ble_eq_true rfl) (Nat.le_refl _) (Nat.le_refl _) (s_X7_skipBlanks t2 ?_)
        dsimp only [psh]
        refine x_iinc (L' := [some _, some _, some _, some _, some _]) (i := 53) (pc' := 96) rfl rfl rfl rfl (by decide) rfl ?_
        refine x_goto (i := 54) (pc' := 64) rfl (by decide) ?_
        exact ih (i + 1) _ (by omega) (by omega) t2.sk hQ
    · have e0 : (if 48 ≤ cu x ∧ cu x ≤ 57 then 1 else 0 : Int) = 0 := if_neg hd
      unfold nl at hQ
      rw [if_neg hd] at hQ
      refine x_iload (i := 38) (pc' := 66) rfl rfl rfl ?_
      refine x_iload_n (i := 39) (pc' := 67) rfl rfl rfl rfl ?_
      refine x_icmpge (i := 40) (pc' := 70) (tgt := 99) rfl rfl (by decide) (by first | omega | (split <;> omega)) (by first | omega | (split <;> omega)) (fun c1 => by exfalso; omega) (fun c1 => ?_)
      refine x_aload_n (i := 41) (pc' := 71) rfl rfl rfl rfl ?_
      refine m_callV (i := 42) (pc' := 74) (av := []) (rest := []) rfl rfl (by decide) lX7_56 (sh52 G) rfl rfl rfl rfl rfl (Nat.le_of_ble_eq_true rfl) (Nat.le_refl _) (Nat.le_refl _) (s_X7_isAtDigit hx ?_)
      dsimp only [psh]
      refine x_ifeq (i := 43) (pc' := 77) (tgt := 99) rfl rfl (by decide) (by first | omega | (split <;> omega)) (fun c2 => ?_) (fun c2 => by exfalso; omega)
      exact po_tail hx hn hf hQ
theorem s_X7_parseOrder {G : GG} {m : Mem} {Q : Option Value → Mem → Prop} {n : Int} (h : TX m) (hn : 0 ≤ n ∧ n < 60) (hQ : Q (some (.int (J (po m n).1))) (po m n).2) : CM G 4 mX7_parseOrder [.ref (G.2.2.2 52), .int (J (n))] m Q := by
  refine CM.of dkX7_parseOrder (Or.inl rfl) [some _, some _, none, none, none] rfl (Nat.le_of_ble_eq_true rfl) ?_
  have hcu := cu_rg h.1
  have hmo := mo_le (cu m)
  by_cases hm1 : mo (cu m) = -1
  · unfold po at hQ
    rw [if_pos hm1] at hQ
    refine x_aload_n (i := 0) (pc' := 1) rfl rfl rfl rfl ?_
    refine m_callV (i := 1) (pc' := 4) (av := []) (rest := []) rfl rfl (by decide) lX7_49 (sh52 G) rfl rfl rfl rfl rfl (Nat.le_of_ble_eq_true rfl) (Nat.le_refl _) (Nat.le_refl _) (s_X7_current h ?_)
    dsimp only [psh]
    refine m_callS (i := 2) (pc' := 7) (av := [_]) (rest := []) rfl rfl (by decide) lX7_53 rfl rfl (Nat.le_of_ble_eq_true rfl) (Nat.le_refl _) (Nat.le_refl _) (s_X7_mostNumbers hcu ?_)
    dsimp only [psh]
    refine x_istore_n (L' := [some _, some _, some _, none, none]) (i := 3) (pc' := 8) rfl rfl rfl rfl (by decide) rfl ?_
    refine x_iload_n (i := 4) (pc' := 9) rfl rfl rfl rfl ?_
    refine x_iconst (i := 5) (pc' := 10) rfl rfl ?_
    refine x_icmpne (i := 6) (pc' := 13) (tgt := 15) rfl rfl (by decide) ⟨by omega, by omega⟩ ⟨by omega, by omega⟩ (fun c1 => by exfalso; omega) (fun c1 => ?_)
    refine x_iconst (i := 7) (pc' := 14) rfl rfl ?_
    exact m_zreturn (i := 8) rfl rfl (by omega) (hQ)
  · unfold po at hQ
    rw [if_neg hm1] at hQ
    have hl : 48 ≤ cu m := (by unfold mo at hm1; (repeat' split at hm1) <;> omega)
    have hlt := cu_lt hl
    have t1 : TX (stm (stm (stm m 54 n (cu m)) 55 n 0) 52 2 (m 52 2 + 1)) := ((h.ot (q := 54) (by decide) hcu).ot (q := 55) (by decide) (by decide)).mv (by show 0 ≤ m 52 2 + 1 ∧ m 52 2 + 1 ≤ m 52 1; omega)
    have t2 := t1.sk
    have hpf : rg (pof m) := (by unfold pof; split <;> omega)
    have e52 : stm (stm m 54 n (cu m)) 55 n 0 52 2 = m 52 2 := rfl
    have T : BW G 4 mX7_parseOrder Q 29 [some (.ref (G.2.2.2 52)), some (.int (J (n))), some (.int (J (mo (cu m)))), none, none] [.int (J (pof m))] m := by
      refine x_istore_n (L' := [some _, some _, some _, some _, none]) (i := 16) (pc' := 30) rfl rfl rfl rfl (by decide) rfl ?_
      refine x_aload_n (i := 17) (pc' := 31) rfl rfl rfl rfl ?_
      refine m_getf (i := 18) (pc' := 34) rfl rfl flX7_22 (sh52 G) rfl rfl ?_
      refine x_iload_n (i := 19) (pc' := 35) rfl rfl rfl rfl ?_
      refine x_aload_n (i := 20) (pc' := 36) rfl rfl rfl rfl ?_
      refine m_callV (i := 21) (pc' := 39) (av := []) (rest := [_, _]) rfl rfl (by decide) lX7_49 (sh52 G) rfl rfl rfl rfl rfl (Nat.le_of_ble_eq_true rfl) (Nat.le_refl _) (Nat.le_refl _) (s_X7_current h ?_)
      dsimp only [psh]
      refine m_iast (i := 22) (pc' := 40) rfl rfl (sh54 G) (by decide) ⟨by omega, by omega⟩ ?_
      refine x_aload_n (i := 23) (pc' := 41) rfl rfl rfl rfl ?_
      refine m_getf (i := 24) (pc' := 44) rfl rfl flX7_25 (sh52 G) rfl rfl ?_
      refine x_iload_n (i := 25) (pc' := 45) rfl rfl rfl rfl ?_
      refine x_iconst (i := 26) (pc' := 46) rfl rfl ?_
      refine m_iast (i := 27) (pc' := 47) rfl rfl (sh55 G) (by decide) ⟨by omega, by omega⟩ ?_
      refine x_aload_n (i := 28) (pc' := 48) rfl rfl rfl rfl ?_
      refine x_dup (i := 29) (pc' := 49) rfl rfl rfl ?_
      refine m_getf (i := 30) (pc' := 52) rfl rfl flX7_19 (sh52 G) rfl rfl ?_
      rw [e52]
      refine x_iconst (i := 31) (pc' := 53) rfl rfl ?_
      refine x_iadd (i := 32) (pc' := 54) rfl rfl ?_
      refine m_putf (kz := 2) (i := 33) (pc' := 57) rfl rfl flX7_19 (sh52 G) (fun _ => rfl) rfl (Nat.le_of_ble_eq_true rfl) rfl rfl ?_
      refine x_aload_n (i := 34) (pc' := 58) rfl rfl rfl rfl ?_
      refine m_callV (i := 35) (pc' := 61) (av := []) (rest := []) rfl rfl (by decide) lX7_42 (sh52 G) rfl rfl rfl rfl rfl (Nat.le_of_ble_eq_true rfl) (Nat.le_refl _) (Nat.le_refl _) (s_X7_skipBlanks t1 ?_)
      dsimp only [psh]
      refine x_iconst (i := 36) (pc' := 62) rfl rfl ?_
      refine x_istore (L' := [some _, some _, some _, some _, some _]) (i := 37) (pc' := 64) rfl rfl rfl (by decide) rfl ?_
      exact po_loop hn hpf (by omega) (mo (cu m)).toNat 0 _ (by omega) (by omega) t2 hQ
    refine x_aload_n (i := 0) (pc' := 1) rfl rfl rfl rfl ?_
    refine m_callV (i := 1) (pc' := 4) (av := []) (rest := []) rfl rfl (by decide) lX7_49 (sh52 G) rfl rfl rfl rfl rfl (Nat.le_of_ble_eq_true rfl) (Nat.le_refl _) (Nat.le_refl _) (s_X7_current h ?_)
    dsimp only [psh]
    refine m_callS (i := 2) (pc' := 7) (av := [_]) (rest := []) rfl rfl (by decide) lX7_53 rfl rfl (Nat.le_of_ble_eq_true rfl) (Nat.le_refl _) (Nat.le_refl _) (s_X7_mostNumbers hcu ?_)
    dsimp only [psh]
    refine x_istore_n (L' := [some _, some _, some _, none, none]) (i := 3) (pc' := 8) rfl rfl rfl rfl (by decide) rfl ?_
    refine x_iload_n (i := 4) (pc' := 9) rfl rfl rfl rfl ?_
    refine x_iconst (i := 5) (pc' := 10) rfl rfl ?_
    refine x_icmpne (i := 6) (pc' := 13) (tgt := 15) rfl rfl (by decide) ⟨by omega, by omega⟩ ⟨by omega, by omega⟩ (fun c1 => ?_) (fun c1 => by exfalso; omega)
    refine x_aload_n (i := 9) (pc' := 16) rfl rfl rfl rfl ?_
    refine m_callV (i := 10) (pc' := 19) (av := []) (rest := []) rfl rfl (by decide) lX7_49 (sh52 G) rfl rfl rfl rfl rfl (Nat.le_of_ble_eq_true rfl) (Nat.le_refl _) (Nat.le_refl _) (s_X7_current h ?_)
    dsimp only [psh]
    refine x_bipush (i := 11) (pc' := 21) rfl rfl (by decide) ?_
    refine x_icmpne (i := 12) (pc' := 24) (tgt := 28) rfl rfl (by decide) ⟨by omega, by omega⟩ ⟨by omega, by omega⟩ (fun c2 => ?_) (fun c2 => ?_)
    · skip
      refine x_iload_n (i := 15) (pc' := 29) rfl rfl rfl rfl ?_
      first | (have e9 : pof m = 1 := if_pos (by omega); rw [e9] at T; exact T) | (have e9 : pof m = mo (cu m) := if_neg (by omega); rw [e9] at T; exact T)
    · skip
      refine x_iconst (i := 13) (pc' := 25) rfl rfl ?_
      refine x_goto (i := 14) (pc' := 29) rfl (by decide) ?_
      first | (have e9 : pof m = 1 := if_pos (by omega); rw [e9] at T; exact T) | (have e9 : pof m = mo (cu m) := if_neg (by omega); rw [e9] at T; exact T)
