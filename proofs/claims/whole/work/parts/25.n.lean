theorem stm_self (m : Mem) (q : Nat) (k : Int) : stm m q k (m q k) = m := by
  funext p j
  unfold stm sr ur
  by_cases h : p = q
  · subst h
    simp only [if_true]
    split
    · next h => rw [h]
    · rfl
  · simp only [if_neg h]
theorem stm_stm (m : Mem) (q : Nat) (k a b : Int) : stm (stm m q k a) q k b = stm m q k b := by
  funext p j
  unfold stm sr ur
  by_cases h : p = q
  · subst h
    simp only [if_true]
    split <;> rfl
  · simp only [if_neg h]
def TX (m : Mem) : Prop := MR m ∧ (0 ≤ m 52 1 ∧ m 52 1 ≤ 120) ∧ (0 ≤ m 52 2 ∧ m 52 2 ≤ m 52 1)
def cu (m : Mem) : Int := if 0 ≤ m 52 2 ∧ m 52 2 < m 52 1 then m 53 (m 52 2) else -1
def dg (m : Mem) : Prop := 48 ≤ cu m ∧ cu m ≤ 57
theorem cu_rg {m : Mem} (h : MR m) : rg (cu m) := by
  unfold cu
  split
  · exact h _ _
  · decide
def skp (t : Row) (len : Int) : Nat → Int → Int
  | 0, p => p
  | k + 1, p => if p < len ∧ t p = 32 then skp t len k (p + 1) else p
theorem skp_le (t : Row) (len : Int) : ∀ (k : Nat) (p : Int), p + k = len → p ≤ skp t len k p ∧ skp t len k p ≤ len
  | 0, p, h => by unfold skp; omega
  | k + 1, p, h => by
    unfold skp
    split
    · have := skp_le t len k (p + 1) (by omega); omega
    · omega
def skm (m : Mem) : Mem := stm m 52 2 (skp (m 53) (m 52 1) (m 52 1 - m 52 2).toNat (m 52 2))
theorem TX.mv {m : Mem} (h : TX m) {p : Int} (hp : 0 ≤ p ∧ p ≤ m 52 1) : TX (stm m 52 2 p) := by
  obtain ⟨h1, h2, h3⟩ := h
  have e1 : stm m 52 2 p 52 1 = m 52 1 := stm_ix _ _ _ (by decide)
  refine ⟨h1.st (by omega), by rw [e1]; exact h2, by rw [stm_eq, e1]; exact hp⟩
theorem TX.sk {m : Mem} (h : TX m) : TX (skm m) := by
  have := skp_le (m 53) (m 52 1) (m 52 1 - m 52 2).toNat (m 52 2) (by have := h.2.2; omega)
  exact h.mv (by have := h.2.2; omega)
theorem TX.ot {m : Mem} (h : TX m) {q : Nat} (hq : q ≠ 52) {k z : Int} (hz : rg z) : TX (stm m q k z) := by
  obtain ⟨h1, h2, h3⟩ := h
  refine ⟨h1.st hz, ?_, ?_⟩ <;> rw [stm_ne _ _ _ (Ne.symm hq)] <;> assumption
def mo (c : Int) : Int := if c = 99 then 0 else if c = 100 then 1 else if c = 103 then 2 else if c = 108 then 6 else if c = 115 then 5 else if c = 119 then 3 else -1
theorem mo_le (c : Int) : -1 ≤ mo c ∧ mo c ≤ 6 := by unfold mo; (repeat' split) <;> omega
def pnp (m : Mem) : Int := if 48 ≤ cu (stm m 52 2 (m 52 2 + 1)) ∧ cu (stm m 52 2 (m 52 2 + 1)) ≤ 57 then m 52 2 + 1 + 1 else m 52 2 + 1
def pnv (m : Mem) : Int := if 48 ≤ cu (stm m 52 2 (m 52 2 + 1)) ∧ cu (stm m 52 2 (m 52 2 + 1)) ≤ 57 then (cu m - 48) * 10 + cu (stm m 52 2 (m 52 2 + 1)) - 48 else cu m - 48
def pn (m : Mem) (n i : Int) : Mem := stm (stm (stm m 52 2 (pnp m)) 56 (n * 6 + i) (pnv m)) 55 n (i + 1)
def nl (n : Int) : Nat → Int → Mem → Int × Mem
  | 0, _, m => (1, m)
  | k + 1, i, m => if 48 ≤ cu m ∧ cu m ≤ 57 then (if 48 ≤ cu (pn m n i) ∧ cu (pn m n i) ≤ 57 then (0, pn m n i) else nl n k (i + 1) (skm (pn m n i))) else (1, m)
def po1 (m : Mem) (n : Int) : Mem := skm (stm (stm (stm m 54 n (cu m)) 55 n 0) 52 2 (m 52 2 + 1))
def pof (m : Mem) : Int := if cu m = 119 then 1 else mo (cu m)
def por (m : Mem) (n : Int) : Int × Mem := nl n (mo (cu m)).toNat 0 (po1 m n)
def pfn (f n ok : Int) (y : Mem) : Int × Mem := if ok = 0 then (0, y) else if cu y = 59 ∧ f ≤ y 55 n then (1, stm y 52 2 (y 52 2 + 1)) else (0, y)
def po (m : Mem) (n : Int) : Int × Mem := if mo (cu m) = -1 then (0, m) else pfn (pof m) n (por m n).1 (por m n).2
def pl : Nat → Int → Mem → Int × Mem
  | 0, _, m => (-1, m)
  | k + 1, n, m => if 0 < n ∧ m 52 1 ≤ skm m 52 2 then (-1, skm m) else if (po (skm m) n).1 = 0 then ((po (skm m) n).2 52 2, (po (skm m) n).2) else pl k (n + 1) (stm (po (skm m) n).2 52 6 (n + 1))
def prs (m : Mem) : Int × Mem := pl 60 0 (stm (stm m 52 6 0) 52 2 0)
theorem s_X7_append {G : GG} {m : Mem} {Q : Option Value → Mem → Prop} {c : Int} (hM : MR m) (h1 : rg c) (h2 : 0 ≤ m 52 1 ∧ m 52 1 ≤ 120) (hQ : Q (some (.int (J (if 0 ≤ c ∧ c ≤ 127 then (if m 52 1 < 120 then m 52 1 + 1 else -4) else -2)))) (if (0 ≤ c ∧ c ≤ 127) ∧ m 52 1 < 120 then stm (stm m 53 (m 52 1) c) 52 1 (m 52 1 + 1) else m)) : CM G 1 mX7_append [.ref (G.2.2.2 52), .int (J (c))] m Q := by
  refine CM.of dkX7_append (Or.inl rfl) [some _, some _] rfl (Nat.le_of_ble_eq_true rfl) ?_
  refine x_iload_n (i := 0) (pc' := 1) rfl rfl rfl rfl ?_
  refine x_iconst (i := 1) (pc' := 2) rfl rfl ?_
  refine x_bipush (i := 2) (pc' := 4) rfl rfl (by decide) ?_
  refine m_callS (i := 3) (pc' := 7) (av := [_, _, _]) (rest := []) rfl rfl (by decide) lX7_34 rfl rfl (Nat.le_of_ble_eq_true rfl) (Nat.le_refl _) (Nat.le_refl _) (s_X11_isWithin (by omega) (by omega) (by omega) ?_)
  dsimp only [psh]
  refine x_ifne (i := 4) (pc' := 10) (tgt := 13) rfl rfl (by decide) (by (repeat' split at *) <;> omega) (fun c1 => ?_) (fun c1 => ?_)
  · skip
    refine x_aload_n (i := 7) (pc' := 14) rfl rfl rfl rfl ?_
    refine m_getf (i := 8) (pc' := 17) rfl rfl flX7_15 (sh52 G) rfl rfl ?_
    refine x_bipush (i := 9) (pc' := 19) rfl rfl (by decide) ?_
    refine x_icmplt (i := 10) (pc' := 22) (tgt := 25) rfl rfl (by decide) (by (repeat' split at *) <;> omega) (by (repeat' split at *) <;> omega) (fun c2 => ?_) (fun c2 => ?_)
    · skip
      refine x_aload_n (i := 13) (pc' := 26) rfl rfl rfl rfl ?_
      refine m_getf (i := 14) (pc' := 29) rfl rfl flX7_9 (sh52 G) rfl rfl ?_
      refine x_aload_n (i := 15) (pc' := 30) rfl rfl rfl rfl ?_
      refine m_getf (i := 16) (pc' := 33) rfl rfl flX7_15 (sh52 G) rfl rfl ?_
      refine x_iload_n (i := 17) (pc' := 34) rfl rfl rfl rfl ?_
      refine m_iast (i := 18) (pc' := 35) rfl rfl (sh53 G) (by decide) ⟨by (repeat' split at *) <;> omega, by (repeat' split at *) <;> omega⟩ ?_
      refine x_aload_n (i := 19) (pc' := 36) rfl rfl rfl rfl ?_
      refine x_dup (i := 20) (pc' := 37) rfl rfl rfl ?_
      refine m_getf (i := 21) (pc' := 40) rfl rfl flX7_15 (sh52 G) rfl rfl ?_
      refine x_iconst (i := 22) (pc' := 41) rfl rfl ?_
      refine x_iadd (i := 23) (pc' := 42) rfl rfl ?_
      refine m_putf (kz := 1) (i := 24) (pc' := 45) rfl rfl flX7_15 (sh52 G) (fun _ => rfl) rfl (Nat.le_of_ble_eq_true rfl) rfl rfl ?_
      refine x_aload_n (i := 25) (pc' := 46) rfl rfl rfl rfl ?_
      refine m_getf (i := 26) (pc' := 49) rfl rfl flX7_15 (sh52 G) rfl rfl ?_
      try rw [stm_eq]
      exact m_ireturn (i := 27) rfl rfl (by (repeat' split at hQ) <;> first | exact hQ | (exfalso; omega))
    · skip
      refine x_bipush (i := 11) (pc' := 24) rfl rfl (by decide) ?_
      exact m_ireturn (i := 12) rfl rfl (by (repeat' split at hQ) <;> first | exact hQ | (exfalso; omega))
  · skip
    refine x_bipush (i := 5) (pc' := 12) rfl rfl (by decide) ?_
    exact m_ireturn (i := 6) rfl rfl (by (repeat' split at hQ) <;> first | exact hQ | (exfalso; omega))
theorem s_X7_empty {G : GG} {m : Mem} {Q : Option Value → Mem → Prop}  (hQ : Q (some (.int (J (m 52 1)))) (stm m 52 1 0)) : CM G 0 mX7_empty [.ref (G.2.2.2 52)] m Q := by
  refine CM.of dkX7_empty (Or.inl rfl) [some _, none] rfl (Nat.le_of_ble_eq_true rfl) ?_
  refine x_aload_n (i := 0) (pc' := 1) rfl rfl rfl rfl ?_
  refine m_getf (i := 1) (pc' := 4) rfl rfl flX7_15 (sh52 G) rfl rfl ?_
  refine x_istore_n (L' := [some _, some _]) (i := 2) (pc' := 5) rfl rfl rfl rfl (by decide) rfl ?_
  refine x_aload_n (i := 3) (pc' := 6) rfl rfl rfl rfl ?_
  refine x_iconst (i := 4) (pc' := 7) rfl rfl ?_
  refine m_putf (kz := 1) (i := 5) (pc' := 10) rfl rfl flX7_15 (sh52 G) (fun _ => rfl) rfl (Nat.le_of_ble_eq_true rfl) rfl rfl ?_
  refine x_iload_n (i := 6) (pc' := 11) rfl rfl rfl rfl ?_
  exact m_ireturn (i := 7) rfl rfl (hQ)
theorem s_X7_letter {G : GG} {m : Mem} {Q : Option Value → Mem → Prop} {a : Int} (ho : 0 ≤ m 52 6 ∧ m 52 6 ≤ 60) (ha : 0 ≤ a ∧ a < m 52 6) (hQ : Q (some (.int (J (m 54 a)))) m) : CM G 1 mX7_letter [.ref (G.2.2.2 52), .int (J (a))] m Q := by
  refine CM.of dkX7_letter (Or.inl rfl) [some _, some _] rfl (Nat.le_of_ble_eq_true rfl) ?_
  have e1 : (if 0 ≤ a ∧ a ≤ m 52 6 - 1 then 1 else 0 : Int) = 1 := if_pos (by omega)
  refine x_iload_n (i := 0) (pc' := 1) rfl rfl rfl rfl ?_
  refine x_iconst (i := 1) (pc' := 2) rfl rfl ?_
  refine x_aload_n (i := 2) (pc' := 3) rfl rfl rfl rfl ?_
  refine m_getf (i := 3) (pc' := 6) rfl rfl flX7_31 (sh52 G) rfl rfl ?_
  refine x_iconst (i := 4) (pc' := 7) rfl rfl ?_
  refine x_isub (i := 5) (pc' := 8) rfl rfl ?_
  refine m_callS (i := 6) (pc' := 11) (av := [_, _, _]) (rest := []) rfl rfl (by decide) lX7_34 rfl rfl (Nat.le_of_ble_eq_true rfl) (Nat.le_refl _) (Nat.le_refl _) (s_X11_isWithin (by omega) (by omega) (by omega) ?_)
  dsimp only [psh]
  refine x_ifeq (i := 7) (pc' := 14) (tgt := 23) rfl rfl (by decide) ⟨by omega, by omega⟩ (fun c1 => ?_) (fun c1 => ?_)
  · first | (exfalso; omega; done) | skip
    all_goals (
      refine x_iconst (i := 13) (pc' := 24) rfl rfl ?_
      exact m_ireturn (i := 14) rfl rfl (hQ)
      skip)
  · first | (exfalso; omega; done) | skip
    all_goals (
      refine x_aload_n (i := 8) (pc' := 15) rfl rfl rfl rfl ?_
      refine m_getf (i := 9) (pc' := 18) rfl rfl flX7_22 (sh52 G) rfl rfl ?_
      refine x_iload_n (i := 10) (pc' := 19) rfl rfl rfl rfl ?_
      refine m_iald (i := 11) (pc' := 20) rfl rfl (sh54 G) (by decide) ⟨by omega, by omega⟩ ?_
      refine x_goto (i := 12) (pc' := 24) rfl (by decide) ?_
      exact m_ireturn (i := 14) rfl rfl (hQ)
      skip)
theorem s_X7_numbers {G : GG} {m : Mem} {Q : Option Value → Mem → Prop} {a : Int} (ho : 0 ≤ m 52 6 ∧ m 52 6 ≤ 60) (ha : 0 ≤ a ∧ a < m 52 6) (hQ : Q (some (.int (J (m 55 a)))) m) : CM G 1 mX7_numbers [.ref (G.2.2.2 52), .int (J (a))] m Q := by
  refine CM.of dkX7_numbers (Or.inl rfl) [some _, some _] rfl (Nat.le_of_ble_eq_true rfl) ?_
  have e1 : (if 0 ≤ a ∧ a ≤ m 52 6 - 1 then 1 else 0 : Int) = 1 := if_pos (by omega)
  refine x_iload_n (i := 0) (pc' := 1) rfl rfl rfl rfl ?_
  refine x_iconst (i := 1) (pc' := 2) rfl rfl ?_
  refine x_aload_n (i := 2) (pc' := 3) rfl rfl rfl rfl ?_
  refine m_getf (i := 3) (pc' := 6) rfl rfl flX7_31 (sh52 G) rfl rfl ?_
  refine x_iconst (i := 4) (pc' := 7) rfl rfl ?_
  refine x_isub (i := 5) (pc' := 8) rfl rfl ?_
  refine m_callS (i := 6) (pc' := 11) (av := [_, _, _]) (rest := []) rfl rfl (by decide) lX7_34 rfl rfl (Nat.le_of_ble_eq_true rfl) (Nat.le_refl _) (Nat.le_refl _) (s_X11_isWithin (by omega) (by omega) (by omega) ?_)
  dsimp only [psh]
  refine x_ifeq (i := 7) (pc' := 14) (tgt := 23) rfl rfl (by decide) ⟨by omega, by omega⟩ (fun c1 => ?_) (fun c1 => ?_)
  · first | (exfalso; omega; done) | skip
    all_goals (
      refine x_iconst (i := 13) (pc' := 24) rfl rfl ?_
      exact m_ireturn (i := 14) rfl rfl (hQ)
      skip)
  · first | (exfalso; omega; done) | skip
    all_goals (
      refine x_aload_n (i := 8) (pc' := 15) rfl rfl rfl rfl ?_
      refine m_getf (i := 9) (pc' := 18) rfl rfl flX7_25 (sh52 G) rfl rfl ?_
      refine x_iload_n (i := 10) (pc' := 19) rfl rfl rfl rfl ?_
      refine m_iald (i := 11) (pc' := 20) rfl rfl (sh55 G) (by decide) ⟨by omega, by omega⟩ ?_
      refine x_goto (i := 12) (pc' := 24) rfl (by decide) ?_
      exact m_ireturn (i := 14) rfl rfl (hQ)
      skip)
theorem s_X7_number {G : GG} {m : Mem} {Q : Option Value → Mem → Prop} {a b : Int} (ho : 0 ≤ m 52 6 ∧ m 52 6 ≤ 60) (ha : 0 ≤ a ∧ a < m 52 6) (hb : 0 ≤ b ∧ b ≤ 5) (hc : 0 ≤ m 55 a ∧ m 55 a ≤ 6) (hQ : Q (some (.int (J (if b < m 55 a then m 56 (a * 6 + b) else -1)))) m) : CM G 2 mX7_number [.ref (G.2.2.2 52), .int (J (a)), .int (J (b))] m Q := by
  refine CM.of dkX7_number (Or.inl rfl) [some _, some _, some _] rfl (Nat.le_of_ble_eq_true rfl) ?_
  refine x_iload_n (i := 0) (pc' := 1) rfl rfl rfl rfl ?_
  refine x_iconst (i := 1) (pc' := 2) rfl rfl ?_
  refine x_aload_n (i := 2) (pc' := 3) rfl rfl rfl rfl ?_
  refine x_iload_n (i := 3) (pc' := 4) rfl rfl rfl rfl ?_
  refine m_callV (i := 4) (pc' := 7) (av := [_]) (rest := [_, _]) rfl rfl (by decide) lX7_38 (sh52 G) rfl rfl rfl rfl rfl (Nat.le_of_ble_eq_true rfl) (Nat.le_refl _) (Nat.le_refl _) (s_X7_numbers ho (by omega) ?_)
  dsimp only [psh]
  refine x_iconst (i := 5) (pc' := 8) rfl rfl ?_
  refine x_isub (i := 6) (pc' := 9) rfl rfl ?_
  refine m_callS (i := 7) (pc' := 12) (av := [_, _, _]) (rest := []) rfl rfl (by decide) lX7_34 rfl rfl (Nat.le_of_ble_eq_true rfl) (Nat.le_refl _) (Nat.le_refl _) (s_X11_isWithin (by omega) (by omega) (by omega) ?_)
  dsimp only [psh]
  refine x_ifeq (i := 8) (pc' := 15) (tgt := 29) rfl rfl (by decide) (by (repeat' split at *) <;> omega) (fun c1 => ?_) (fun c1 => ?_)
  · skip
    refine x_iconst (i := 18) (pc' := 30) rfl rfl ?_
    exact m_ireturn (i := 19) rfl rfl (by (repeat' split at hQ) <;> (repeat' split at *) <;> first | exact hQ | (exfalso; omega))
  · skip
    refine x_aload_n (i := 9) (pc' := 16) rfl rfl rfl rfl ?_
    refine m_getf (i := 10) (pc' := 19) rfl rfl flX7_28 (sh52 G) rfl rfl ?_
    refine x_iload_n (i := 11) (pc' := 20) rfl rfl rfl rfl ?_
    refine x_bipush (i := 12) (pc' := 22) rfl rfl (by decide) ?_
    refine x_imul (i := 13) (pc' := 23) rfl rfl ?_
    refine x_iload_n (i := 14) (pc' := 24) rfl rfl rfl rfl ?_
    refine x_iadd (i := 15) (pc' := 25) rfl rfl ?_
    refine m_iald (i := 16) (pc' := 26) rfl rfl (sh56 G) (by decide) ⟨by (repeat' split at *) <;> omega, by (repeat' split at *) <;> omega⟩ ?_
    refine x_goto (i := 17) (pc' := 30) rfl (by decide) ?_
    exact m_ireturn (i := 19) rfl rfl (by (repeat' split at hQ) <;> (repeat' split at *) <;> first | exact hQ | (exfalso; omega))
theorem s_X7_current {G : GG} {m : Mem} {Q : Option Value → Mem → Prop} (h : TX m) (hQ : Q (some (.int (J (cu m)))) m) : CM G 1 mX7_current [.ref (G.2.2.2 52)] m Q := by
  refine CM.of dkX7_current (Or.inl rfl) [some _] rfl (Nat.le_of_ble_eq_true rfl) ?_
  obtain ⟨hM, h2, h3⟩ := h
  refine x_aload_n (i := 0) (pc' := 1) rfl rfl rfl rfl ?_
  refine m_getf (i := 1) (pc' := 4) rfl rfl flX7_19 (sh52 G) rfl rfl ?_
  refine x_iconst (i := 2) (pc' := 5) rfl rfl ?_
  refine x_aload_n (i := 3) (pc' := 6) rfl rfl rfl rfl ?_
  refine m_getf (i := 4) (pc' := 9) rfl rfl flX7_15 (sh52 G) rfl rfl ?_
  refine x_iconst (i := 5) (pc' := 10) rfl rfl ?_
  refine x_isub (i := 6) (pc' := 11) rfl rfl ?_
  refine m_callS (i := 7) (pc' := 14) (av := [_, _, _]) (rest := []) rfl rfl (by decide) lX7_34 rfl rfl (Nat.le_of_ble_eq_true rfl) (Nat.le_refl _) (Nat.le_refl _) (s_X11_isWithin (by omega) (by omega) (by omega) ?_)
  dsimp only [psh]
  refine x_ifeq (i := 8) (pc' := 17) (tgt := 29) rfl rfl (by decide) (by (repeat' split at *) <;> omega) (fun c1 => ?_) (fun c1 => ?_)
  · skip
    refine x_iconst (i := 15) (pc' := 30) rfl rfl ?_
    exact m_ireturn (i := 16) rfl rfl (by unfold cu at hQ; (repeat' split at hQ) <;> (repeat' split at *) <;> first | exact hQ | (exfalso; omega))
  · skip
    refine x_aload_n (i := 9) (pc' := 18) rfl rfl rfl rfl ?_
    refine m_getf (i := 10) (pc' := 21) rfl rfl flX7_9 (sh52 G) rfl rfl ?_
    refine x_aload_n (i := 11) (pc' := 22) rfl rfl rfl rfl ?_
    refine m_getf (i := 12) (pc' := 25) rfl rfl flX7_19 (sh52 G) rfl rfl ?_
    refine m_iald (i := 13) (pc' := 26) rfl rfl (sh53 G) (by decide) ⟨by (repeat' split at *) <;> omega, by (repeat' split at *) <;> omega⟩ ?_
    refine x_goto (i := 14) (pc' := 30) rfl (by decide) ?_
    exact m_ireturn (i := 16) rfl rfl (by unfold cu at hQ; (repeat' split at hQ) <;> (repeat' split at *) <;> first | exact hQ | (exfalso; omega))
theorem s_X7_isAtDigit {G : GG} {m : Mem} {Q : Option Value → Mem → Prop} (h : TX m) (hQ : Q (some (.int (J (if 48 ≤ cu m ∧ cu m ≤ 57 then 1 else 0)))) m) : CM G 2 mX7_isAtDigit [.ref (G.2.2.2 52)] m Q := by
  refine CM.of dkX7_isAtDigit (Or.inl rfl) [some _] rfl (Nat.le_of_ble_eq_true rfl) ?_
  have hcu := cu_rg h.1
  refine x_aload_n (i := 0) (pc' := 1) rfl rfl rfl rfl ?_
  refine m_callV (i := 1) (pc' := 4) (av := []) (rest := []) rfl rfl (by decide) lX7_49 (sh52 G) rfl rfl rfl rfl rfl (Nat.le_of_ble_eq_true rfl) (Nat.le_refl _) (Nat.le_refl _) (s_X7_current h ?_)
  dsimp only [psh]
  refine x_bipush (i := 2) (pc' := 6) rfl rfl (by decide) ?_
  refine x_bipush (i := 3) (pc' := 8) rfl rfl (by decide) ?_
  refine m_callS (i := 4) (pc' := 11) (av := [_, _, _]) (rest := []) rfl rfl (by decide) lX7_34 rfl rfl (Nat.le_of_ble_eq_true rfl) (Nat.le_refl _) (Nat.le_refl _) (s_X11_isWithin (by omega) (by omega) (by omega) ?_)
  dsimp only [psh]
  exact m_zreturn (i := 5) rfl rfl (by split <;> omega) (hQ)
theorem s_X7_skipBlanks {G : GG} {m : Mem} {Q : Option Value → Mem → Prop} (h : TX m) (hQ : Q none (skm m)) : CM G 0 mX7_skipBlanks [.ref (G.2.2.2 52)] m Q := by
  refine CM.of dkX7_skipBlanks (Or.inl rfl) [some _] rfl (Nat.le_of_ble_eq_true rfl) ?_
  suffices H : ∀ (k : Nat) (q : Int), q + k = m 52 1 → 0 ≤ q → Q none (stm m 52 2 (skp (m 53) (m 52 1) k q)) → BW G 0 mX7_skipBlanks Q 0 [some (.ref (G.2.2.2 52))] [] (stm m 52 2 q) by
    have h9 := H (m 52 1 - m 52 2).toNat (m 52 2) (by have := h.2.2; omega) h.2.2.1 hQ
    rw [stm_self] at h9
    exact h9
  have hln := h.2.1
  intro k
  induction k with
  | zero =>
    intro q hq h0 hQ
    unfold skp at hQ
    have e1 : stm m 52 2 q 52 1 = m 52 1 := stm_ix _ _ _ (by decide)
    have e2 : stm m 52 2 q 52 2 = q := stm_eq _ _ _ _
    refine x_aload_n (i := 0) (pc' := 1) rfl rfl rfl rfl ?_
    refine m_getf (i := 1) (pc' := 4) rfl rfl flX7_19 (sh52 G) rfl rfl ?_
    rw [e2]
    refine x_aload_n (i := 2) (pc' := 5) rfl rfl rfl rfl ?_
    refine m_getf (i := 3) (pc' := 8) rfl rfl flX7_15 (sh52 G) rfl rfl ?_
    rw [e1]
    refine x_icmpge (i := 4) (pc' := 11) (tgt := 38) rfl rfl (by decide) ⟨by omega, by omega⟩ ⟨by omega, by omega⟩ (fun c1 => ?_) (fun c1 => by exfalso; omega)
    exact m_return (i := 19) rfl rfl (hQ)
  | succ k ih =>
    intro q hq h0 hQ
    have e1 : stm m 52 2 q 52 1 = m 52 1 := stm_ix _ _ _ (by decide)
    have e2 : stm m 52 2 q 52 2 = q := stm_eq _ _ _ _
    have e3 : stm m 52 2 q 53 q = m 53 q := rfl
    have hr := h.1 53 q
    refine x_aload_n (i := 0) (pc' := 1) rfl rfl rfl rfl ?_
    refine m_getf (i := 1) (pc' := 4) rfl rfl flX7_19 (sh52 G) rfl rfl ?_
    rw [e2]
    refine x_aload_n (i := 2) (pc' := 5) rfl rfl rfl rfl ?_
    refine m_getf (i := 3) (pc' := 8) rfl rfl flX7_15 (sh52 G) rfl rfl ?_
    rw [e1]
    refine x_icmpge (i := 4) (pc' := 11) (tgt := 38) rfl rfl (by decide) (by first | omega | exact h.1 _ _) (by first | omega | exact h.1 _ _) (fun c1 => by exfalso; omega) (fun c1 => ?_)
    refine x_aload_n (i := 5) (pc' := 12) rfl rfl rfl rfl ?_
    refine m_getf (i := 6) (pc' := 15) rfl rfl flX7_9 (sh52 G) rfl rfl ?_
    refine x_aload_n (i := 7) (pc' := 16) rfl rfl rfl rfl ?_
    refine m_getf (i := 8) (pc' := 19) rfl rfl flX7_19 (sh52 G) rfl rfl ?_
    rw [e2]
    refine m_iald (i := 9) (pc' := 20) rfl rfl (sh53 G) (by decide) ⟨by omega, by omega⟩ ?_
    rw [e3]
    refine x_bipush (i := 10) (pc' := 22) rfl rfl (by decide) ?_
    refine x_icmpne (i := 11) (pc' := 25) (tgt := 38) rfl rfl (by decide) (by first | omega | exact h.1 _ _) (by first | omega | exact h.1 _ _) (fun c2 => ?_) (fun c2 => ?_)
    · skip
      exact m_return (i := 19) rfl rfl (by unfold skp at hQ; rw [if_neg (by omega)] at hQ; exact hQ)
    · skip
      refine x_aload_n (i := 12) (pc' := 26) rfl rfl rfl rfl ?_
      refine x_dup (i := 13) (pc' := 27) rfl rfl rfl ?_
      refine m_getf (i := 14) (pc' := 30) rfl rfl flX7_19 (sh52 G) rfl rfl ?_
      rw [e2]
      refine x_iconst (i := 15) (pc' := 31) rfl rfl ?_
      refine x_iadd (i := 16) (pc' := 32) rfl rfl ?_
      refine m_putf (kz := 2) (i := 17) (pc' := 35) rfl rfl flX7_19 (sh52 G) (fun _ => rfl) rfl (Nat.le_of_ble_eq_true rfl) rfl rfl ?_
      refine x_goto (i := 18) (pc' := 0) rfl (by decide) ?_
      rw [stm_stm]
      unfold skp at hQ
      rw [if_pos (by omega)] at hQ
      exact ih (q + 1) (by omega) (by omega) hQ
theorem s_X7_mostNumbers {G : GG} {m : Mem} {Q : Option Value → Mem → Prop} {a : Int} (ha : rg a) (hQ : Q (some (.int (J (mo a)))) m) : CM G 0 mX7_mostNumbers [.int (J (a))] m Q := by
  refine CM.of dkX7_mostNumbers (Or.inl rfl) [some _] rfl (Nat.le_of_ble_eq_true rfl) ?_
  refine x_iload_n (i := 0) (pc' := 1) rfl rfl rfl rfl ?_
  rcases (by omega : a = 99 ∨ a = 100 ∨ a = 103 ∨ a = 108 ∨ a = 115 ∨ a = 119 ∨ (¬ a = 99 ∧ ¬ a = 100 ∧ ¬ a = 103 ∧ ¬ a = 108 ∧ ¬ a = 115 ∧ ¬ a = 119)) with c1 | c1 | c1 | c1 | c1 | c1 | c1
  · first | (exfalso; omega; done) | skip
    all_goals (
      refine x_look (i := 1) (off := 70) (tgt := 71) rfl (by decide) ⟨by omega, by omega⟩ (by rw [c1]; rfl) (by decide) ?_
      refine x_iconst (i := 12) (pc' := 72) rfl rfl ?_
      exact m_ireturn (i := 13) rfl rfl (by unfold mo at hQ; (repeat' split at hQ) <;> first | exact hQ | (exfalso; omega))
      skip)
  · first | (exfalso; omega; done) | skip
    all_goals (
      refine x_look (i := 1) (off := 68) (tgt := 69) rfl (by decide) ⟨by omega, by omega⟩ (by rw [c1]; rfl) (by decide) ?_
      refine x_iconst (i := 10) (pc' := 70) rfl rfl ?_
      exact m_ireturn (i := 11) rfl rfl (by unfold mo at hQ; (repeat' split at hQ) <;> first | exact hQ | (exfalso; omega))
      skip)
  · first | (exfalso; omega; done) | skip
    all_goals (
      refine x_look (i := 1) (off := 63) (tgt := 64) rfl (by decide) ⟨by omega, by omega⟩ (by rw [c1]; rfl) (by decide) ?_
      refine x_iconst (i := 6) (pc' := 65) rfl rfl ?_
      exact m_ireturn (i := 7) rfl rfl (by unfold mo at hQ; (repeat' split at hQ) <;> first | exact hQ | (exfalso; omega))
      skip)
  · first | (exfalso; omega; done) | skip
    all_goals (
      refine x_look (i := 1) (off := 65) (tgt := 66) rfl (by decide) ⟨by omega, by omega⟩ (by rw [c1]; rfl) (by decide) ?_
      refine x_bipush (i := 8) (pc' := 68) rfl rfl (by decide) ?_
      exact m_ireturn (i := 9) rfl rfl (by unfold mo at hQ; (repeat' split at hQ) <;> first | exact hQ | (exfalso; omega))
      skip)
  · first | (exfalso; omega; done) | skip
    all_goals (
      refine x_look (i := 1) (off := 59) (tgt := 60) rfl (by decide) ⟨by omega, by omega⟩ (by rw [c1]; rfl) (by decide) ?_
      refine x_iconst (i := 2) (pc' := 61) rfl rfl ?_
      exact m_ireturn (i := 3) rfl rfl (by unfold mo at hQ; (repeat' split at hQ) <;> first | exact hQ | (exfalso; omega))
      skip)
  · first | (exfalso; omega; done) | skip
    all_goals (
      refine x_look (i := 1) (off := 61) (tgt := 62) rfl (by decide) ⟨by omega, by omega⟩ (by rw [c1]; rfl) (by decide) ?_
      refine x_iconst (i := 4) (pc' := 63) rfl rfl ?_
      exact m_ireturn (i := 5) rfl rfl (by unfold mo at hQ; (repeat' split at hQ) <;> first | exact hQ | (exfalso; omega))
      skip)
  · first | (exfalso; omega; done) | skip
    all_goals (
      refine x_look (i := 1) (off := 72) (tgt := 73) rfl (by decide) ⟨by omega, by omega⟩ (by simp [Op.lookupswitch.offset]; (repeat' split) <;> omega) (by decide) ?_
      refine x_iconst (i := 14) (pc' := 74) rfl rfl ?_
      exact m_ireturn (i := 15) rfl rfl (by unfold mo at hQ; (repeat' split at hQ) <;> first | exact hQ | (exfalso; omega))
      skip)
