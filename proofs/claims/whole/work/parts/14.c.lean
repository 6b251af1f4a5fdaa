noncomputable def bp (p : Prop) : Int := @ite Int p (Classical.propDecidable p) 1 0
theorem bp_t {p : Prop} (h : p) : bp p = 1 := if_pos h
theorem bp_f {p : Prop} (h : ¬ p) : bp p = 0 := if_neg h
theorem bp_01 (p : Prop) : bp p = 0 ∨ bp p = 1 := by
  by_cases h : p
  · exact Or.inr (bp_t h)
  · exact Or.inl (bp_f h)
theorem bp_1 {p : Prop} (h : ¬ bp p = 0) : p := by
  by_cases h2 : p
  · exact h2
  · exact absurd (bp_f h2) h
theorem bp_0 {p : Prop} (h : bp p = 0) : ¬ p := fun h2 => by rw [bp_t h2] at h; omega
theorem bp_congr {p q : Prop} (h : p ↔ q) : bp p = bp q := by rw [propext h]
theorem ex_ind {P Z : Int → Prop} (p : Int → Prop) (N j0 : Int) (hj : j0 ≤ N) (hend : Z 0 → P N) (hs : ∀ j, j0 ≤ j → j < N → (p j → Z 1) → (¬ p j → P (j + 1)) → P j) (hz : Z (bp (∃ i, j0 ≤ i ∧ i < N ∧ p i))) : P j0 := by
  have key : ∀ (k : Nat) (j : Int), j + k = N → j0 ≤ j → Z (bp (∃ i, j ≤ i ∧ i < N ∧ p i)) → P j := by
    intro k
    induction k with
    | zero =>
      intro j h h0 hz
      have : j = N := by omega
      subst this
      rw [bp_f (by rintro ⟨i, h1, h2, -⟩; omega)] at hz
      exact hend hz
    | succ k ih =>
      intro j h h0 hz
      refine hs j h0 (by omega) (fun hp => ?_) (fun hp => ih (j + 1) (by omega) (by omega) ?_)
      · rw [bp_t ⟨j, Int.le_refl _, by omega, hp⟩] at hz; exact hz
      · rw [bp_congr (q := ∃ i, j + 1 ≤ i ∧ i < N ∧ p i)] at hz
        · exact hz
        · constructor
          · rintro ⟨i, h1, h2, h3⟩
            have : i ≠ j := fun e => hp (e ▸ h3)
            exact ⟨i, by omega, h2, h3⟩
          · rintro ⟨i, h1, h2, h3⟩
            exact ⟨i, by omega, h2, h3⟩
  exact key (N - j0).toNat j0 (by omega) (Int.le_refl _) hz
theorem all_ind {P Z : Int → Prop} (p : Int → Prop) (N j0 : Int) (hj : j0 ≤ N) (hend : Z 1 → P N) (hs : ∀ j, j0 ≤ j → j < N → (¬ p j → Z 0) → (p j → P (j + 1)) → P j) (hz : Z (bp (∀ i, j0 ≤ i → i < N → p i))) : P j0 := by
  have key : ∀ (k : Nat) (j : Int), j + k = N → j0 ≤ j → Z (bp (∀ i, j ≤ i → i < N → p i)) → P j := by
    intro k
    induction k with
    | zero =>
      intro j h h0 hz
      have : j = N := by omega
      subst this
      rw [bp_t (by intro i h1 h2; omega)] at hz
      exact hend hz
    | succ k ih =>
      intro j h h0 hz
      refine hs j h0 (by omega) (fun hp => ?_) (fun hp => ih (j + 1) (by omega) (by omega) ?_)
      · rw [bp_f (fun h => hp (h j (Int.le_refl _) (by omega)))] at hz; exact hz
      · rw [bp_congr (q := ∀ i, j + 1 ≤ i → i < N → p i)] at hz
        · exact hz
        · constructor
          · intro h i h1 h2; exact h i (by omega) h2
          · intro h i h1 h2
            by_cases e : i = j
            · subst e; exact hp
            · exact h i (by omega) h2
  exact key (N - j0).toNat j0 (by omega) (Int.le_refl _) hz
theorem MR.st {m : Mem} (h : MR m) {q : Nat} {k z : Int} (hz : rg z) : MR (stm m q k z) := by
  intro p j
  unfold stm sr ur
  split
  · dsimp only
    split
    · exact hz
    · exact h q j
  · exact h p j
theorem MR.cp {m : Mem} (h : MR m) {q a b : Nat} {sp dp n : Int} : MR (sr m q (cpr (m a) (m b) sp dp n)) := by
  intro p j
  unfold sr cpr
  split
  · dsimp only
    split
    · exact h _ _
    · exact h _ _
  · exact h _ _
theorem stm_back (m : Mem) (q : Nat) (k z : Int) : stm (stm m q k z) q k (m q k) = m := by
  funext p j
  unfold stm sr ur
  by_cases h : p = q
  · subst h
    simp only [if_true]
    split
    · next h => rw [h]
    · rfl
  · simp only [if_neg h]
def he (m : Mem) (a : Int) : Prop := ∃ i, 0 ≤ i ∧ i < m 2 2 ∧ (i ≠ a ∧ df m i a = 0)
def askm (m : Mem) (h p q f : Int) : Mem := stm (stm (stm (stm m 3 (16 * 5 + 0) h) 3 (16 * 5 + 1) p) 3 (16 * 5 + 2) q) 3 (16 * 5 + 3) f
def apm (m : Mem) : Mem := stm (sr m 3 (cpr (m 3) (m 3) 80 (m 2 2 * 5) 5)) 2 2 (m 2 2 + 1)
def CN (m : Mem) : Prop := 0 ≤ m 2 2 ∧ m 2 2 ≤ 16
theorem df_nn (m : Mem) (a b : Int) : 0 ≤ df m a b ∧ df m a b < 65536 := by
  have h : ∀ x : Int, ∀ p : Nat, p < 4 → 0 ≤ x ∧ x < 16 → 0 ≤ io x (1 * 2 ^ p) ∧ io x (1 * 2 ^ p) < 16 := by
    intro x p hp hx
    have h1 := Nat.or_lt_two_pow (n := 4) (x := x.toNat) (y := ((1 : Int) * 2 ^ p).toNat) (by omega) (by
      rcases (by omega : p = 0 ∨ p = 1 ∨ p = 2 ∨ p = 3) with rfl | rfl | rfl | rfl <;> decide)
    unfold io
    omega
  have k : ∀ (c : Prop) [Decidable c] (x : Int) (p : Nat), p < 4 → 0 ≤ x ∧ x < 16 → 0 ≤ (if c then x else io x (1 * 2 ^ p)) ∧ (if c then x else io x (1 * 2 ^ p)) < 16 := by
    intro c _ x p hp hx
    split
    · exact hx
    · exact h x p hp hx
  have r := k (m 3 (a * 5 + 3) = m 3 (b * 5 + 3)) _ 3 (by omega) (k (m 3 (a * 5 + 2) = m 3 (b * 5 + 2)) _ 2 (by omega) (k (m 3 (a * 5 + 1) = m 3 (b * 5 + 1)) _ 1 (by omega) (k (m 3 (a * 5 + 0) = m 3 (b * 5 + 0)) 0 0 (by omega) (by omega))))
  have e : df m a b < 16 ∧ 0 ≤ df m a b := ⟨r.2, r.1⟩
  omega
theorem s_X3_holds {G : GG} {m : Mem} {Q : Option Value → Mem → Prop} {a : Int} (hn : CN m) (ha : rg a) (hQ : Q (some (.int (J (if 0 ≤ a ∧ a < m 2 2 then 1 else 0)))) m) : CM G 1 mX3_holds [.ref (G.2.2.2 2), .int (J (a))] m Q := by
  refine CM.of dkX3_holds (Or.inl rfl) [some _, some _] rfl (Nat.le_of_ble_eq_true rfl) ?_
  have hn0 := hn.1; have hn1 := hn.2
  refine x_iload_n (i := 0) (pc' := 1) rfl rfl rfl rfl ?_
  refine x_iconst (i := 1) (pc' := 2) rfl rfl ?_
  refine x_aload_n (i := 2) (pc' := 3) rfl rfl rfl rfl ?_
  refine m_getf (i := 3) (pc' := 6) rfl rfl flX3_18 (sh2 G) rfl rfl ?_
  refine x_iconst (i := 4) (pc' := 7) rfl rfl ?_
  refine x_isub (i := 5) (pc' := 8) rfl rfl ?_
  refine m_callS (i := 6) (pc' := 11) (av := [_, _, _]) (rest := []) rfl rfl (by decide) lX3_28 rfl rfl (Nat.le_of_ble_eq_true rfl) (Nat.le_refl _) (Nat.le_refl _) (s_X11_isWithin (by omega) (by omega) (by omega) ?_)
  dsimp only [psh]
  exact m_zreturn (i := 7) rfl rfl (by split <;> omega) (by (repeat' split at hQ) <;> (repeat' split) <;> first | exact hQ | (exfalso; omega))
theorem s_X3_setTrait {G : GG} {m : Mem} {Q : Option Value → Mem → Prop} {a b v : Int} (ha : 0 ≤ a ∧ a ≤ 16) (hb : 0 ≤ b ∧ b ≤ 4) (hQ : Q none (stm m 3 (a * 5 + b) v)) : CM G 1 mX3_setTrait [.ref (G.2.2.2 2), .int (J (a)), .int (J (b)), .int (J (v))] m Q := by
  refine CM.of dkX3_setTrait (Or.inl rfl) [some _, some _, some _, some _] rfl (Nat.le_of_ble_eq_true rfl) ?_
  have e1 : (if 0 ≤ a ∧ a ≤ 16 then 1 else 0 : Int) = 1 := if_pos ha
  have e2 : (if 0 ≤ b ∧ b ≤ 4 then 1 else 0 : Int) = 1 := if_pos hb
  refine x_iload_n (i := 0) (pc' := 1) rfl rfl rfl rfl ?_
  refine x_iconst (i := 1) (pc' := 2) rfl rfl ?_
  refine x_bipush (i := 2) (pc' := 4) rfl rfl (by decide) ?_
  refine m_callS (i := 3) (pc' := 7) (av := [_, _, _]) (rest := []) rfl rfl (by decide) lX3_28 rfl rfl (Nat.le_of_ble_eq_true rfl) (Nat.le_refl _) (Nat.le_refl _) (s_X11_isWithin (by omega) (by omega) (by omega) ?_)
  dsimp only [psh]
  refine x_ifeq (i := 4) (pc' := 10) (tgt := 30) rfl rfl (by decide) ⟨by omega, by omega⟩ (fun c1 => ?_) (fun c1 => ?_)
  · first | (exfalso; omega; done) | skip
    all_goals (
      exact m_return (i := 19) rfl rfl (hQ)
      skip)
  · first | (exfalso; omega; done) | skip
    all_goals (
      refine x_iload_n (i := 5) (pc' := 11) rfl rfl rfl rfl ?_
      refine x_iconst (i := 6) (pc' := 12) rfl rfl ?_
      refine x_iconst (i := 7) (pc' := 13) rfl rfl ?_
      refine m_callS (i := 8) (pc' := 16) (av := [_, _, _]) (rest := []) rfl rfl (by decide) lX3_28 rfl rfl (Nat.le_of_ble_eq_true rfl) (Nat.le_refl _) (Nat.le_refl _) (s_X11_isWithin (by omega) (by omega) (by omega) ?_)
      dsimp only [psh]
      refine x_ifeq (i := 9) (pc' := 19) (tgt := 30) rfl rfl (by decide) ⟨by omega, by omega⟩ (fun c2 => ?_) (fun c2 => ?_)
      · first | (exfalso; omega; done) | skip
        all_goals (
          exact m_return (i := 19) rfl rfl (hQ)
          skip)
      · first | (exfalso; omega; done) | skip
        all_goals (
          refine x_aload_n (i := 10) (pc' := 20) rfl rfl rfl rfl ?_
          refine m_getf (i := 11) (pc' := 23) rfl rfl flX3_9 (sh2 G) rfl rfl ?_
          refine x_iload_n (i := 12) (pc' := 24) rfl rfl rfl rfl ?_
          refine x_iconst (i := 13) (pc' := 25) rfl rfl ?_
          refine x_imul (i := 14) (pc' := 26) rfl rfl ?_
          refine x_iload_n (i := 15) (pc' := 27) rfl rfl rfl rfl ?_
          refine x_iadd (i := 16) (pc' := 28) rfl rfl ?_
          refine x_iload_n (i := 17) (pc' := 29) rfl rfl rfl rfl ?_
          refine m_iast (i := 18) (pc' := 30) rfl rfl (sh3 G) (by decide) ⟨by omega, by omega⟩ ?_
          exact m_return (i := 19) rfl rfl (hQ)
          skip)
      skip)
theorem s_X3_weightOf {G : GG} {m : Mem} {Q : Option Value → Mem → Prop} {a : Int} (ha : 0 ≤ a ∧ a ≤ 3) (hQ : Q (some (.int (J (m 4 a)))) m) : CM G 1 mX3_weightOf [.ref (G.2.2.2 2), .int (J (a))] m Q := by
  refine CM.of dkX3_weightOf (Or.inl rfl) [some _, some _] rfl (Nat.le_of_ble_eq_true rfl) ?_
  have e1 : (if 0 ≤ a ∧ a ≤ 3 then 1 else 0 : Int) = 1 := if_pos ha
  refine x_iload_n (i := 0) (pc' := 1) rfl rfl rfl rfl ?_
  refine x_iconst (i := 1) (pc' := 2) rfl rfl ?_
  refine x_iconst (i := 2) (pc' := 3) rfl rfl ?_
  refine m_callS (i := 3) (pc' := 6) (av := [_, _, _]) (rest := []) rfl rfl (by decide) lX3_28 rfl rfl (Nat.le_of_ble_eq_true rfl) (Nat.le_refl _) (Nat.le_refl _) (s_X11_isWithin (by omega) (by omega) (by omega) ?_)
  dsimp only [psh]
  refine x_ifeq (i := 4) (pc' := 9) (tgt := 18) rfl rfl (by decide) ⟨by omega, by omega⟩ (fun c1 => ?_) (fun c1 => ?_)
  · first | (exfalso; omega; done) | skip
    all_goals (
      refine x_iconst (i := 10) (pc' := 19) rfl rfl ?_
      exact m_ireturn (i := 11) rfl rfl (hQ)
      skip)
  · first | (exfalso; omega; done) | skip
    all_goals (
      refine x_aload_n (i := 5) (pc' := 10) rfl rfl rfl rfl ?_
      refine m_getf (i := 6) (pc' := 13) rfl rfl flX3_15 (sh2 G) rfl rfl ?_
      refine x_iload_n (i := 7) (pc' := 14) rfl rfl rfl rfl ?_
      refine m_iald (i := 8) (pc' := 15) rfl rfl (sh4 G) (by decide) ⟨by omega, by omega⟩ ?_
      refine x_goto (i := 9) (pc' := 19) rfl (by decide) ?_
      exact m_ireturn (i := 11) rfl rfl (hQ)
      skip)
theorem s_X3_setWeight {G : GG} {m : Mem} {Q : Option Value → Mem → Prop} {a b : Int} (ha : rg a) (hb : rg b) (hQ : Q (some (.int (J (if (0 ≤ a ∧ a ≤ 3) ∧ (0 ≤ b ∧ b ≤ 5) then m 4 a else -2)))) (if (0 ≤ a ∧ a ≤ 3) ∧ (0 ≤ b ∧ b ≤ 5) then stm m 4 a b else m)) : CM G 1 mX3_setWeight [.ref (G.2.2.2 2), .int (J (a)), .int (J (b))] m Q := by
  refine CM.of dkX3_setWeight (Or.inl rfl) [some _, some _, some _, none] rfl (Nat.le_of_ble_eq_true rfl) ?_
  refine x_iload_n (i := 0) (pc' := 1) rfl rfl rfl rfl ?_
  refine x_iconst (i := 1) (pc' := 2) rfl rfl ?_
  refine x_iconst (i := 2) (pc' := 3) rfl rfl ?_
  refine m_callS (i := 3) (pc' := 6) (av := [_, _, _]) (rest := []) rfl rfl (by decide) lX3_28 rfl rfl (Nat.le_of_ble_eq_true rfl) (Nat.le_refl _) (Nat.le_refl _) (s_X11_isWithin (by omega) (by omega) (by omega) ?_)
  dsimp only [psh]
  refine x_ifeq (i := 4) (pc' := 9) (tgt := 18) rfl rfl (by decide) (by (repeat' split) <;> omega) (fun c1 => ?_) (fun c1 => ?_)
  · skip
    refine x_bipush (i := 10) (pc' := 20) rfl rfl (by decide) ?_
    exact m_ireturn (i := 11) rfl rfl (by (repeat' split at hQ) <;> (repeat' split at *) <;> first | exact hQ | (exfalso; omega))
  · skip
    refine x_iload_n (i := 5) (pc' := 10) rfl rfl rfl rfl ?_
    refine x_iconst (i := 6) (pc' := 11) rfl rfl ?_
    refine x_iconst (i := 7) (pc' := 12) rfl rfl ?_
    refine m_callS (i := 8) (pc' := 15) (av := [_, _, _]) (rest := []) rfl rfl (by decide) lX3_28 rfl rfl (Nat.le_of_ble_eq_true rfl) (Nat.le_refl _) (Nat.le_refl _) (s_X11_isWithin (by omega) (by omega) (by omega) ?_)
    dsimp only [psh]
    refine x_ifne (i := 9) (pc' := 18) (tgt := 21) rfl rfl (by decide) (by (repeat' split) <;> omega) (fun c2 => ?_) (fun c2 => ?_)
    · skip
      refine x_aload_n (i := 12) (pc' := 22) rfl rfl rfl rfl ?_
      refine m_getf (i := 13) (pc' := 25) rfl rfl flX3_15 (sh2 G) rfl rfl ?_
      refine x_iload_n (i := 14) (pc' := 26) rfl rfl rfl rfl ?_
      refine m_iald (i := 15) (pc' := 27) rfl rfl (sh4 G) (by decide) ⟨by (repeat' split at *) <;> omega, by (repeat' split at *) <;> omega⟩ ?_
      refine x_istore_n (L' := [some _, some _, some _, some _]) (i := 16) (pc' := 28) rfl rfl rfl rfl (by decide) rfl ?_
      refine x_aload_n (i := 17) (pc' := 29) rfl rfl rfl rfl ?_
      refine m_getf (i := 18) (pc' := 32) rfl rfl flX3_15 (sh2 G) rfl rfl ?_
      refine x_iload_n (i := 19) (pc' := 33) rfl rfl rfl rfl ?_
      refine x_iload_n (i := 20) (pc' := 34) rfl rfl rfl rfl ?_
      refine m_iast (i := 21) (pc' := 35) rfl rfl (sh4 G) (by decide) ⟨by (repeat' split at *) <;> omega, by (repeat' split at *) <;> omega⟩ ?_
      refine x_iload_n (i := 22) (pc' := 36) rfl rfl rfl rfl ?_
      exact m_ireturn (i := 23) rfl rfl (by (repeat' split at hQ) <;> (repeat' split at *) <;> first | exact hQ | (exfalso; omega))
    · skip
      refine x_bipush (i := 10) (pc' := 20) rfl rfl (by decide) ?_
      exact m_ireturn (i := 11) rfl rfl (by (repeat' split at hQ) <;> (repeat' split at *) <;> first | exact hQ | (exfalso; omega))
theorem s_X3_ask {G : GG} {m : Mem} {Q : Option Value → Mem → Prop} {h p q f : Int}  (hQ : Q none (askm m h p q f)) : CM G 2 mX3_ask [.ref (G.2.2.2 2), .int (J (h)), .int (J (p)), .int (J (q)), .int (J (f))] m Q := by
  refine CM.of dkX3_ask (Or.inl rfl) [some _, some _, some _, some _, some _] rfl (Nat.le_of_ble_eq_true rfl) ?_
  refine x_aload_n (i := 0) (pc' := 1) rfl rfl rfl rfl ?_
  refine x_bipush (i := 1) (pc' := 3) rfl rfl (by decide) ?_
  refine x_iconst (i := 2) (pc' := 4) rfl rfl ?_
  refine x_iload_n (i := 3) (pc' := 5) rfl rfl rfl rfl ?_
  refine m_callV (i := 4) (pc' := 8) (av := [_, _, _]) (rest := []) rfl rfl (by decide) lX3_32 (sh2 G) rfl rfl rfl rfl rfl (Nat.le_of_ble_eq_true rfl) (Nat.le_refl _) (Nat.le_refl _) (s_X3_setTrait (by omega) (by omega) ?_)
  dsimp only [psh]
  refine x_aload_n (i := 5) (pc' := 9) rfl rfl rfl rfl ?_
  refine x_bipush (i := 6) (pc' := 11) rfl rfl (by decide) ?_
  refine x_iconst (i := 7) (pc' := 12) rfl rfl ?_
  refine x_iload_n (i := 8) (pc' := 13) rfl rfl rfl rfl ?_
  refine m_callV (i := 9) (pc' := 16) (av := [_, _, _]) (rest := []) rfl rfl (by decide) lX3_32 (sh2 G) rfl rfl rfl rfl rfl (Nat.le_of_ble_eq_true rfl) (Nat.le_refl _) (Nat.le_refl _) (s_X3_setTrait (by omega) (by omega) ?_)
  dsimp only [psh]
  refine x_aload_n (i := 10) (pc' := 17) rfl rfl rfl rfl ?_
  refine x_bipush (i := 11) (pc' := 19) rfl rfl (by decide) ?_
  refine x_iconst (i := 12) (pc' := 20) rfl rfl ?_
  refine x_iload_n (i := 13) (pc' := 21) rfl rfl rfl rfl ?_
  refine m_callV (i := 14) (pc' := 24) (av := [_, _, _]) (rest := []) rfl rfl (by decide) lX3_32 (sh2 G) rfl rfl rfl rfl rfl (Nat.le_of_ble_eq_true rfl) (Nat.le_refl _) (Nat.le_refl _) (s_X3_setTrait (by omega) (by omega) ?_)
  dsimp only [psh]
  refine x_aload_n (i := 15) (pc' := 25) rfl rfl rfl rfl ?_
  refine x_bipush (i := 16) (pc' := 27) rfl rfl (by decide) ?_
  refine x_iconst (i := 17) (pc' := 28) rfl rfl ?_
  refine x_iload (i := 18) (pc' := 30) rfl rfl rfl ?_
  refine m_callV (i := 19) (pc' := 33) (av := [_, _, _]) (rest := []) rfl rfl (by decide) lX3_32 (sh2 G) rfl rfl rfl rfl rfl (Nat.le_of_ble_eq_true rfl) (Nat.le_refl _) (Nat.le_refl _) (s_X3_setTrait (by omega) (by omega) ?_)
  dsimp only [psh]
  exact m_return (i := 20) rfl rfl (hQ)
theorem s_X3_hasEqual {G : GG} {m : Mem} {Q : Option Value → Mem → Prop} {a : Int} (hM : MR m) (hn : CN m) (ha : 0 ≤ a ∧ a ≤ 16) (hQ : Q (some (.int (J (bp (he m a))))) m) : CM G 2 mX3_hasEqual [.ref (G.2.2.2 2), .int (J (a))] m Q := by
  refine CM.of dkX3_hasEqual (Or.inl rfl) [some _, some _, none] rfl (Nat.le_of_ble_eq_true rfl) ?_
  have hn0 := hn.1; have hn1 := hn.2
  refine x_iconst (i := 0) (pc' := 1) rfl rfl ?_
  refine x_istore_n (L' := [some _, some _, some _]) (i := 1) (pc' := 2) rfl rfl rfl rfl (by decide) rfl ?_
  skip
  refine ex_ind (P := fun j => BW G 2 mX3_hasEqual Q 2 [some (.ref (G.2.2.2 2)), some (.int (J (a))), some (.int (J (j)))] [] m) (Z := fun r => Q (some (.int (J r))) m) (fun i => i ≠ a ∧ df m i a = 0) (m 2 2) 0 (by omega) (fun hz => ?_) (fun j hj0 hj h1 h2 => ?_) hQ
  · skip
    refine x_iload_n (i := 2) (pc' := 3) rfl rfl rfl rfl ?_
    refine x_aload_n (i := 3) (pc' := 4) rfl rfl rfl rfl ?_
    refine m_getf (i := 4) (pc' := 7) rfl rfl flX3_18 (sh2 G) rfl rfl ?_
    refine x_icmpge (i := 5) (pc' := 10) (tgt := 32) rfl rfl (by decide) ⟨by omega, by omega⟩ ⟨by omega, by omega⟩ (fun c1 => ?_) (fun c1 => by exfalso; omega)
    refine x_iconst (i := 18) (pc' := 33) rfl rfl ?_
    exact m_zreturn (i := 19) rfl rfl (by omega) (hz)
  · have hdf := df_nn m j a
    refine x_iload_n (i := 2) (pc' := 3) rfl rfl rfl rfl ?_
    refine x_aload_n (i := 3) (pc' := 4) rfl rfl rfl rfl ?_
    refine m_getf (i := 4) (pc' := 7) rfl rfl flX3_18 (sh2 G) rfl rfl ?_
    refine x_icmpge (i := 5) (pc' := 10) (tgt := 32) rfl rfl (by decide) ⟨by omega, by omega⟩ ⟨by omega, by omega⟩ (fun c1 => by exfalso; omega) (fun c1 => ?_)
    refine x_iload_n (i := 6) (pc' := 11) rfl rfl rfl rfl ?_
    refine x_iload_n (i := 7) (pc' := 12) rfl rfl rfl rfl ?_
    refine x_icmpeq (i := 8) (pc' := 15) (tgt := 26) rfl rfl (by decide) ⟨by omega, by omega⟩ ⟨by omega, by omega⟩ (fun c2 => ?_) (fun c2 => ?_)
    · first | (exfalso; omega; done) | skip
      all_goals (
        refine x_iinc (L' := [some _, some _, some _]) (i := 16) (pc' := 29) rfl rfl rfl rfl (by decide) rfl ?_
        refine x_goto (i := 17) (pc' := 2) rfl (by decide) ?_
        exact h2 (by omega)
        skip)
    · first | (exfalso; omega; done) | skip
      all_goals (
        refine x_aload_n (i := 9) (pc' := 16) rfl rfl rfl rfl ?_
        refine x_iload_n (i := 10) (pc' := 17) rfl rfl rfl rfl ?_
        refine x_iload_n (i := 11) (pc' := 18) rfl rfl rfl rfl ?_
        refine m_callV (i := 12) (pc' := 21) (av := [_, _]) (rest := []) rfl rfl (by decide) lX3_52 (sh2 G) rfl rfl rfl rfl rfl (Nat.le_of_ble_eq_true rfl) (Nat.le_refl _) (Nat.le_refl _) (s_X3_differingParts hM (by omega) (by omega) ?_)
        dsimp only [psh]
        refine x_ifne (i := 13) (pc' := 24) (tgt := 26) rfl rfl (by decide) ⟨by omega, by omega⟩ (fun c3 => ?_) (fun c3 => ?_)
        · first | (exfalso; omega; done) | skip
          all_goals (
            refine x_iinc (L' := [some _, some _, some _]) (i := 16) (pc' := 29) rfl rfl rfl rfl (by decide) rfl ?_
            refine x_goto (i := 17) (pc' := 2) rfl (by decide) ?_
            exact h2 (by omega)
            skip)
        · first | (exfalso; omega; done) | skip
          all_goals (
            refine x_iconst (i := 14) (pc' := 25) rfl rfl ?_
            exact m_zreturn (i := 15) rfl rfl (by omega) (h1 (by omega))
            skip)
        skip)
