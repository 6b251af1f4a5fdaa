def ltm (m : Mem) (s : Int) : Int := it (fun t x => x + m 67 (s * 6 + t) * ab (m 68 s - m 68 t)) 0 s.toNat 0
def pfm : Nat → Int → Int → Int → Mem → Mem
  | 0, _, _, l, m => if m 66 3 ≤ l then m else sr (stm m 66 3 l) 69 (cpr ((stm m 66 3 l) 68) ((stm m 66 3 l) 69) 0 0 6)
  | k + 1, s, t, l, m => if m 66 3 ≤ l then m else it (fun v (x : Mem) => if ia (t / 2 ^ v.toNat) 1 = 0 then pfm k (s + 1) (io t (1 * 2 ^ v.toNat)) (l + ltm (stm x 68 s v) s) (stm x 68 s v) else x) 0 6 m
def PFI (x : Mem) : Prop := MR x ∧ (∀ s, 0 ≤ s → s ≤ 5 → 0 ≤ x 68 s ∧ x 68 s ≤ 5) ∧ (∀ i, 0 ≤ i → i < 36 → 0 ≤ x 67 i ∧ x 67 i ≤ 32)
theorem PFI.st {x : Mem} (h : PFI x) {s v : Int} (hv : 0 ≤ v ∧ v ≤ 5) : PFI (stm x 68 s v) := by
  obtain ⟨h1, h2, h3⟩ := h
  refine ⟨h1.st (by omega), fun i a b => ?_, fun i a b => by rw [stm_ne _ _ _ (by decide)]; exact h3 i a b⟩
  by_cases hi : i = s
  · rw [hi, stm_eq]; exact hv
  · rw [stm_ix _ _ _ hi]; exact h2 i a b
theorem ltm_le {m : Mem} (h : PFI m) {s : Int} (hs : 0 ≤ s ∧ s ≤ 5) : 0 ≤ ltm m s ∧ ltm m s ≤ 160 * s := by
  have := it_Ij (f := fun t x => x + m 67 (s * 6 + t) * ab (m 68 s - m 68 t)) (fun j x => 0 ≤ x ∧ x ≤ 160 * j) s.toNat 0 0 (fun i y h1 h2 h3 => by
    have a1 := h.2.2 (s * 6 + i) (by omega) (by omega)
    have a2 := h.2.1 s (by omega) (by omega)
    have a3 := h.2.1 i (by omega) (by omega)
    have a4 := ab_le (x := m 68 s - m 68 i) (n := 5) (by omega)
    have a5 : 0 ≤ m 67 (s * 6 + i) * ab (m 68 s - m 68 i) := Int.mul_nonneg a1.1 a4.1
    have a6 : m 67 (s * 6 + i) * ab (m 68 s - m 68 i) ≤ 32 * ab (m 68 s - m 68 i) := Int.mul_le_mul_of_nonneg_right a1.2 a4.1
    omega) (by omega)
  unfold ltm
  omega
theorem pfm_I : ∀ (k : Nat) (s t l : Int) (m : Mem), 0 ≤ s → s + k = 6 → (0 ≤ l ∧ l ≤ 1000 * s) → PFI m → PFI (pfm k s t l m)
  | 0, s, t, l, m, h0, hs, hl, h => by
    unfold pfm
    split
    · exact h
    · obtain ⟨h1, h2, h3⟩ := h
      exact ⟨(h1.st (by omega)).cp, h2, h3⟩
  | k + 1, s, t, l, m, h0, hs, hl, h => by
    unfold pfm
    split
    · exact h
    · refine it_I _ _ _ (fun v y h1 h2 hy => ?_) h
      split
      · have hy2 := hy.st (s := s) (v := v) (by omega)
        have hlt := ltm_le hy2 (s := s) (by omega)
        exact pfm_I k (s + 1) _ _ _ (by omega) (by omega) (by omega) hy2
      · exact hy
def ast (n : Int) (x : Mem) : Mem := stm x 67 (mx (x 65 (n - 1)) (x 65 n) * 6 + mn (x 65 (n - 1)) (x 65 n)) (x 67 (mx (x 65 (n - 1)) (x 65 n) * 6 + mn (x 65 (n - 1)) (x 65 n)) + 1)
def asm_ (m : Mem) : Mem := it (fun n x => ast n x) 1 (m 64 1 - 1).toNat (flm m 67 36 0)
def arm (m : Mem) : Mem := pfm 6 0 0 0 (stm (asm_ m) 66 3 2147483647)
def ASI (m : Mem) (j : Int) (x : Mem) : Prop := MR x ∧ x 64 = m 64 ∧ x 65 = m 65 ∧ x 68 = m 68 ∧ ∀ i, 0 ≤ i → i < 36 → 0 ≤ x 67 i ∧ x 67 i ≤ j - 1
theorem mxmn {a b : Int} (ha : 0 ≤ a ∧ a ≤ 5) (hb : 0 ≤ b ∧ b ≤ 5) : 0 ≤ mx a b * 6 + mn a b ∧ mx a b * 6 + mn a b < 36 := by unfold mx mn; (repeat' split) <;> omega
theorem ast_I {m : Mem} {j : Int} {x : Mem} (hp : ∀ n, 0 ≤ n → n < m 64 1 → 0 ≤ m 65 n ∧ m 65 n ≤ 5) (hj : 1 ≤ j ∧ j < m 64 1) (hc : m 64 1 ≤ 32) (h : ASI m j x) : ASI m (j + 1) (ast j x) := by
  obtain ⟨h1, h2, h3, h4, h5⟩ := h
  have p1 := hp (j - 1) (by omega) (by omega)
  have p2 := hp j (by omega) (by omega)
  rw [← h3] at p1 p2
  have hx := mxmn p1 p2
  have h6 := h5 _ hx.1 hx.2
  refine ⟨h1.st (by omega), (stm_ne _ _ _ (by decide)).trans h2, (stm_ne _ _ _ (by decide)).trans h3, (stm_ne _ _ _ (by decide)).trans h4, fun i a b => ?_⟩
  have h7 := h5 i a b
  unfold ast
  by_cases hi : i = mx (x 65 (j - 1)) (x 65 j) * 6 + mn (x 65 (j - 1)) (x 65 j)
  · rw [hi, stm_eq]; omega
  · rw [stm_ix _ _ _ hi]; omega
theorem as_0 {m : Mem} (hM : MR m) : ASI m 1 (flm m 67 36 0) := ⟨flm_MR (by decide) _ _ _ hM, flm_ne (by decide) _ _ _ _, flm_ne (by decide) _ _ _ _, flm_ne (by decide) _ _ _ _, fun i a b => by
  have h9 := (fl_get (q := 67) (v := 0) 36 0 i m).1 (by omega)
  unfold flm; omega⟩
theorem asm_I {m : Mem} (hM : MR m) (hc : 0 ≤ m 64 1 ∧ m 64 1 ≤ 32) (hp : ∀ n, 0 ≤ n → n < m 64 1 → 0 ≤ m 65 n ∧ m 65 n ≤ 5) : ASI m 33 (asm_ m) := by
  have := it_Ij (f := fun n x => ast n x) (fun j x => ASI m j x) (m 64 1 - 1).toNat 1 (flm m 67 36 0) (fun i y a b c => ast_I hp (by omega) hc.2 c) (as_0 hM)
  obtain ⟨h1, h2, h3, h4, h5⟩ := this
  exact ⟨h1, h2, h3, h4, fun i a b => by have := h5 i a b; unfold asm_; omega⟩
theorem arm_0 {m : Mem} (hM : MR m) (hc : 0 ≤ m 64 1 ∧ m 64 1 ≤ 32) (hp : ∀ n, 0 ≤ n → n < m 64 1 → 0 ≤ m 65 n ∧ m 65 n ≤ 5) (ht : ∀ s, 0 ≤ s → s ≤ 5 → 0 ≤ m 68 s ∧ m 68 s ≤ 5) : PFI (stm (asm_ m) 66 3 2147483647) := by
  obtain ⟨h1, h2, h3, h4, h5⟩ := asm_I hM hc hp
  refine ⟨h1.st (by decide), fun i a b => ?_, fun i a b => ?_⟩
  · rw [stm_ne _ _ _ (by decide), h4]; exact ht i a b
  · rw [stm_ne _ _ _ (by decide)]; have := h5 i a b; omega
theorem s_X0_lengthTo {G : GG} {m : Mem} {Q : Option Value → Mem → Prop} {a : Int} (hs : 0 ≤ a ∧ a ≤ 5) (h : PFI m) (hQ : Q (some (.int (J (ltm m a)))) m) : CM G 1 mX0_lengthTo [.ref (G.2.2.2 66), .int (J (a))] m Q := by
  refine CM.of dkX0_lengthTo (Or.inl rfl) [some _, some _, none, none] rfl (Nat.le_of_ble_eq_true rfl) ?_
  refine x_iconst (i := 0) (pc' := 1) rfl rfl ?_
  refine x_istore_n (L' := [some _, some _, some _, none]) (i := 1) (pc' := 2) rfl rfl rfl rfl (by decide) rfl ?_
  refine x_iconst (i := 2) (pc' := 3) rfl rfl ?_
  refine x_istore_n (L' := [some _, some _, some _, some _]) (i := 3) (pc' := 4) rfl rfl rfl rfl (by decide) rfl ?_
  skip
  refine up_ind0 (P := fun (j : Int) (x : Int) => BW G 1 mX0_lengthTo Q 4 [some (.ref (G.2.2.2 66)), some (.int (J (a))), some (.int (J (x))), some (.int (J (j)))] [] m) (fun (j : Int) (x : Int) => x + m 67 (a * 6 + j) * ab (m 68 a - m 68 j)) (a) (0) (0) (by omega) (fun j x hj0 hj hk => ?_) ?_
  · have a2 := h.2.1 a (by omega) (by omega); have a3 := h.2.1 j (by omega) (by omega)
    refine x_iload_n (i := 4) (pc' := 5) rfl rfl rfl rfl ?_
    refine x_iload_n (i := 5) (pc' := 6) rfl rfl rfl rfl ?_
    refine x_icmpge (i := 6) (pc' := 9) (tgt := 46) rfl rfl (by decide) ⟨by omega, by omega⟩ ⟨by omega, by omega⟩ (fun c1 => by exfalso; omega) (fun c1 => ?_)
    refine x_iload_n (i := 7) (pc' := 10) rfl rfl rfl rfl ?_
    refine x_aload_n (i := 8) (pc' := 11) rfl rfl rfl rfl ?_
    refine m_getf (i := 9) (pc' := 14) rfl rfl flX0_9 (sh66 G) rfl rfl ?_
    refine x_iload_n (i := 10) (pc' := 15) rfl rfl rfl rfl ?_
    refine x_bipush (i := 11) (pc' := 17) rfl rfl (by decide) ?_
    refine x_imul (i := 12) (pc' := 18) rfl rfl ?_
    refine x_iload_n (i := 13) (pc' := 19) rfl rfl rfl rfl ?_
    refine x_iadd (i := 14) (pc' := 20) rfl rfl ?_
    refine m_iald (i := 15) (pc' := 21) rfl rfl (sh67 G) (by decide) ⟨by omega, by omega⟩ ?_
    refine x_aload_n (i := 16) (pc' := 22) rfl rfl rfl rfl ?_
    refine m_getf (i := 17) (pc' := 25) rfl rfl flX0_15 (sh66 G) rfl rfl ?_
    refine x_iload_n (i := 18) (pc' := 26) rfl rfl rfl rfl ?_
    refine m_iald (i := 19) (pc' := 27) rfl rfl (sh68 G) (by decide) ⟨by omega, by omega⟩ ?_
    refine x_aload_n (i := 20) (pc' := 28) rfl rfl rfl rfl ?_
    refine m_getf (i := 21) (pc' := 31) rfl rfl flX0_15 (sh66 G) rfl rfl ?_
    refine x_iload_n (i := 22) (pc' := 32) rfl rfl rfl rfl ?_
    refine m_iald (i := 23) (pc' := 33) rfl rfl (sh68 G) (by decide) ⟨by omega, by omega⟩ ?_
    refine x_isub (i := 24) (pc' := 34) rfl rfl ?_
    refine m_callS (i := 25) (pc' := 37) (av := [_]) (rest := [_, _]) rfl rfl (by decide) lX0_73 rfl rfl (Nat.le_of_ble_eq_true rfl) (Nat.le_refl _) (Nat.le_refl _) (s_J9_abs_0f7a4 (by omega) ?_)
    dsimp only [psh]
    refine x_imul (i := 26) (pc' := 38) rfl rfl ?_
    refine x_iadd (i := 27) (pc' := 39) rfl rfl ?_
    refine x_istore_n (L' := [some _, some _, some _, some _]) (i := 28) (pc' := 40) rfl rfl rfl rfl (by decide) rfl ?_
    refine x_iinc (L' := [some _, some _, some _, some _]) (i := 29) (pc' := 43) rfl rfl rfl rfl (by decide) rfl ?_
    refine x_goto (i := 30) (pc' := 4) rfl (by decide) ?_
    (first | exact hk | (refine AW.le ?_ hk; simp [lvle]; done) | ((repeat' split at hk) <;> first | exact hk | (refine AW.le ?_ hk; simp [lvle]; done) | (exfalso; omega)))
  · skip
    refine x_iload_n (i := 4) (pc' := 5) rfl rfl rfl rfl ?_
    refine x_iload_n (i := 5) (pc' := 6) rfl rfl rfl rfl ?_
    refine x_icmpge (i := 6) (pc' := 9) (tgt := 46) rfl rfl (by decide) ⟨by omega, by omega⟩ ⟨by omega, by omega⟩ (fun c1 => ?_) (fun c1 => by exfalso; omega)
    refine x_iload_n (i := 31) (pc' := 47) rfl rfl rfl rfl ?_
    exact m_ireturn (i := 32) rfl rfl (by rw [Int.sub_zero]; exact hQ)
theorem s_X0_placeFrom {G : GG} : ∀ (k : Nat) (s t l : Int) (m : Mem) (Q : Option Value → Mem → Prop), 0 ≤ s → s + k = 6 → (0 ≤ t ∧ t < 64) → (0 ≤ l ∧ l ≤ 1000 * s) → PFI m → Q none (pfm k s t l m) → CM G (k + 2) mX0_placeFrom [.ref (G.2.2.2 66), .int (J s), .int (J t), .int (J l)] m Q := by
  intro k
  induction k with
  | zero =>
    intro s t l m Q h0 hs ht hl hI hQ
    refine CM.of dkX0_placeFrom (Or.inl rfl) [some _, some _, some _, some _, none] rfl (Nat.le_of_ble_eq_true rfl) ?_
    refine x_iload_n (i := 0) (pc' := 1) rfl rfl rfl rfl ?_
    refine x_aload_n (i := 1) (pc' := 2) rfl rfl rfl rfl ?_
    refine m_getf (i := 2) (pc' := 5) rfl rfl flX0_21 (sh66 G) rfl rfl ?_
    refine x_icmplt (i := 3) (pc' := 8) (tgt := 9) rfl rfl (by decide) (by first | omega | exact hI.1 _ _) (by first | omega | exact hI.1 _ _) (fun c1 => ?_) (fun c1 => ?_)
    · first | (exfalso; omega; done) | skip
      all_goals (
        refine x_iload_n (i := 5) (pc' := 10) rfl rfl rfl rfl ?_
        refine x_bipush (i := 6) (pc' := 12) rfl rfl (by decide) ?_
        refine x_icmplt (i := 7) (pc' := 15) (tgt := 36) rfl rfl (by decide) (by first | omega | exact hI.1 _ _) (by first | omega | exact hI.1 _ _) (fun c2 => ?_) (fun c2 => ?_)
        · first | (exfalso; omega; done) | skip
          all_goals (
            exfalso; omega
            skip)
        · first | (exfalso; omega; done) | skip
          all_goals (
            refine x_aload_n (i := 8) (pc' := 16) rfl rfl rfl rfl ?_
            refine x_iload_n (i := 9) (pc' := 17) rfl rfl rfl rfl ?_
            refine m_putf (kz := 3) (i := 10) (pc' := 20) rfl rfl flX0_21 (sh66 G) (fun _ => rfl) rfl (Nat.le_of_ble_eq_true rfl) rfl rfl ?_
            refine x_aload_n (i := 11) (pc' := 21) rfl rfl rfl rfl ?_
            refine m_getf (i := 12) (pc' := 24) rfl rfl flX0_15 (sh66 G) rfl rfl ?_
            refine x_iconst (i := 13) (pc' := 25) rfl rfl ?_
            refine x_aload_n (i := 14) (pc' := 26) rfl rfl rfl rfl ?_
            refine m_getf (i := 15) (pc' := 29) rfl rfl flX0_18 (sh66 G) rfl rfl ?_
            refine x_iconst (i := 16) (pc' := 30) rfl rfl ?_
            refine x_bipush (i := 17) (pc' := 32) rfl rfl (by decide) ?_
            refine m_copy (i := 18) (pc' := 35) rfl rfl (by omega) acX0_64 (sh68 G) (sh69 G) (by decide) (by decide) (by first | omega | decide) (by first | omega | decide) (by first | omega | decide) (by first | omega | decide) (by first | omega | decide) (Nat.le_of_ble_eq_true rfl) ac_n ac_s ac_i ?_
            exact m_return (i := 19) rfl rfl (by unfold pfm at hQ; (repeat' split at hQ) <;> first | exact hQ | (exfalso; omega))
            skip)
        skip)
    · first | (exfalso; omega; done) | skip
      all_goals (
        exact m_return (i := 4) rfl rfl (by unfold pfm at hQ; (repeat' split at hQ) <;> first | exact hQ | (exfalso; omega))
        skip)
  | succ k ih =>
    intro s t l m Q h0 hs ht hl hI hQ
    refine CM.of dkX0_placeFrom (Or.inl rfl) [some _, some _, some _, some _, none] rfl (Nat.le_of_ble_eq_true rfl) ?_
    refine x_iload_n (i := 0) (pc' := 1) rfl rfl rfl rfl ?_
    refine x_aload_n (i := 1) (pc' := 2) rfl rfl rfl rfl ?_
    refine m_getf (i := 2) (pc' := 5) rfl rfl flX0_21 (sh66 G) rfl rfl ?_
    refine x_icmplt (i := 3) (pc' := 8) (tgt := 9) rfl rfl (by decide) (by first | omega | exact hI.1 _ _) (by first | omega | exact hI.1 _ _) (fun c1 => ?_) (fun c1 => ?_)
    · skip
      refine x_iload_n (i := 5) (pc' := 10) rfl rfl rfl rfl ?_
      refine x_bipush (i := 6) (pc' := 12) rfl rfl (by decide) ?_
      refine x_icmplt (i := 7) (pc' := 15) (tgt := 36) rfl rfl (by decide) (by first | omega | exact hI.1 _ _) (by first | omega | exact hI.1 _ _) (fun c2 => ?_) (fun c2 => by exfalso; omega)
      refine x_iconst (i := 20) (pc' := 37) rfl rfl ?_
      refine x_istore (L' := [some _, some _, some _, some _, some _]) (i := 21) (pc' := 39) rfl rfl rfl (by decide) rfl ?_
      unfold pfm at hQ
      rw [if_neg (by omega)] at hQ
      refine up_ind1 (P := fun (j : Int) (x : Mem) => BW G (k + 1 + 2) mX0_placeFrom Q 39 [some (.ref (G.2.2.2 66)), some (.int (J (s))), some (.int (J (t))), some (.int (J (l))), some (.int (J (j)))] [] x) (fun (j : Int) (x : Mem) => if ia (t / 2 ^ j.toNat) 1 = 0 then pfm k (s + 1) (io t (1 * 2 ^ j.toNat)) (l + ltm (stm x 68 s j) s) (stm x 68 s j) else x) (fun (j : Int) (x : Mem) => PFI x) (6) (0) (m) (by omega) (hI) (fun j x hj0 hj hi => by (have hy2 := hi.st (s := s) (v := j) (by omega); have hlt := ltm_le hy2 (s := s) (by omega); split <;> first | exact pfm_I k (s + 1) _ _ _ (by omega) (by omega) (by omega) hy2 | exact hi)) (fun j x hj0 hj hi hk => ?_) (fun hi => ?_)
      · have hy2 := hi.st (s := s) (v := j) (by omega)
        have hlt := ltm_le hy2 (s := s) (by omega)
        have hpw := pw5 (j := j) (by omega)
        have hd1 : 0 ≤ t / 2 ^ j.toNat := Int.ediv_nonneg (by omega) (by omega)
        have hia := ia_le (t / 2 ^ j.toNat) 1; have hia2 := ia_nn (t / 2 ^ j.toNat) 1
        have hio := io_lt 6 (a := t) (b := 1 * 2 ^ j.toNat) (by omega) (by omega); have hio2 := io_nn t (1 * 2 ^ j.toNat)
        refine x_iload (i := 22) (pc' := 41) rfl rfl rfl ?_
        refine x_bipush (i := 23) (pc' := 43) rfl rfl (by decide) ?_
        refine x_icmpge (i := 24) (pc' := 46) (tgt := 89) rfl rfl (by decide) ⟨by omega, by omega⟩ ⟨by omega, by omega⟩ (fun e1 => by exfalso; omega) (fun e1 => ?_)
        refine x_iload_n (i := 25) (pc' := 47) rfl rfl rfl rfl ?_
        refine x_iload (i := 26) (pc' := 49) rfl rfl rfl ?_
        refine x_ishr (i := 27) (pc' := 50) rfl rfl (by omega) (by omega) ?_
        refine x_iconst (i := 28) (pc' := 51) rfl rfl ?_
        refine x_iand (i := 29) (pc' := 52) rfl rfl (by omega) (by omega) ?_
        refine x_ifne (i := 30) (pc' := 55) (tgt := 83) rfl rfl (by decide) ⟨by omega, by omega⟩ (fun e2 => ?_) (fun e2 => ?_)
        · skip
          refine x_iinc (L' := [some _, some _, some _, some _, some _]) (i := 51) (pc' := 86) rfl rfl rfl rfl (by decide) rfl ?_
          refine x_goto (i := 52) (pc' := 39) rfl (by decide) ?_
          (first | exact hk | (refine AW.le ?_ hk; simp [lvle]; done) | ((repeat' split at hk) <;> first | exact hk | (refine AW.le ?_ hk; simp [lvle]; done) | (exfalso; omega)))
        · skip
          refine x_aload_n (i := 31) (pc' := 56) rfl rfl rfl rfl ?_
          refine m_getf (i := 32) (pc' := 59) rfl rfl flX0_15 (sh66 G) rfl rfl ?_
          refine x_iload_n (i := 33) (pc' := 60) rfl rfl rfl rfl ?_
          refine x_iload (i := 34) (pc' := 62) rfl rfl rfl ?_
          refine m_iast (i := 35) (pc' := 63) rfl rfl (sh68 G) (by decide) ⟨by omega, by omega⟩ ?_
          refine x_aload_n (i := 36) (pc' := 64) rfl rfl rfl rfl ?_
          refine x_iload_n (i := 37) (pc' := 65) rfl rfl rfl rfl ?_
          refine x_iconst (i := 38) (pc' := 66) rfl rfl ?_
          refine x_iadd (i := 39) (pc' := 67) rfl rfl ?_
          refine x_iload_n (i := 40) (pc' := 68) rfl rfl rfl rfl ?_
          refine x_iconst (i := 41) (pc' := 69) rfl rfl ?_
          refine x_iload (i := 42) (pc' := 71) rfl rfl rfl ?_
          refine x_ishl (i := 43) (pc' := 72) rfl rfl (by omega) (by omega) ?_
          refine x_ior (i := 44) (pc' := 73) rfl rfl (by omega) (by omega) ?_
          refine x_iload_n (i := 45) (pc' := 74) rfl rfl rfl rfl ?_
          refine x_aload_n (i := 46) (pc' := 75) rfl rfl rfl rfl ?_
          refine x_iload_n (i := 47) (pc' := 76) rfl rfl rfl rfl ?_
          refine m_callV (i := 48) (pc' := 79) (av := [_]) (rest := [_, _, _, _]) rfl rfl (by omega) lX0_70 (sh66 G) rfl rfl rfl rfl rfl (Nat.le_of_ble_eq_true rfl) (Nat.le_refl _) (Nat.le_refl _) (s_X0_lengthTo (by omega) hy2 ?_)
          dsimp only [psh]
          refine x_iadd (i := 49) (pc' := 80) rfl rfl ?_
          refine m_callS (i := 50) (pc' := 83) (av := [_, _, _, _]) (rest := []) rfl rfl (by omega) lX0_47 rfl rfl (Nat.le_of_ble_eq_true rfl) (Nat.le_refl _) (Nat.le_refl _) (ih _ _ _ _ _ (by omega) (by omega) (by omega) (by omega) hy2 ?_)
          dsimp only [psh]
          refine x_iinc (L' := [some _, some _, some _, some _, some _]) (i := 51) (pc' := 86) rfl rfl rfl rfl (by decide) rfl ?_
          refine x_goto (i := 52) (pc' := 39) rfl (by decide) ?_
          (first | exact hk | (refine AW.le ?_ hk; simp [lvle]; done) | ((repeat' split at hk) <;> first | exact hk | (refine AW.le ?_ hk; simp [lvle]; done) | (exfalso; omega)))
      · skip
        refine x_iload (i := 22) (pc' := 41) rfl rfl rfl ?_
        refine x_bipush (i := 23) (pc' := 43) rfl rfl (by decide) ?_
        refine x_icmpge (i := 24) (pc' := 46) (tgt := 89) rfl rfl (by decide) ⟨by omega, by omega⟩ ⟨by omega, by omega⟩ (fun f1 => ?_) (fun f1 => by exfalso; omega)
        exact m_return (i := 53) rfl rfl (by first | exact hQ | (rw [Int.sub_zero]; exact hQ))
    · skip
      exact m_return (i := 4) rfl rfl (by unfold pfm at hQ; rw [if_pos (by omega)] at hQ; exact hQ)
theorem s_X0_countStep {G : GG} {m : Mem} {Q : Option Value → Mem → Prop} {a b : Int} (ha : 0 ≤ a ∧ a ≤ 5) (hb : 0 ≤ b ∧ b ≤ 5) (hQ : Q none (stm m 67 (mx a b * 6 + mn a b) (m 67 (mx a b * 6 + mn a b) + 1))) : CM G 2 mX0_countStep [.ref (G.2.2.2 66), .int (J (a)), .int (J (b))] m Q := by
  refine CM.of dkX0_countStep (Or.inl rfl) [some _, some _, some _] rfl (Nat.le_of_ble_eq_true rfl) ?_
  have hx := mxmn ha hb
  refine x_iload_n (i := 0) (pc' := 1) rfl rfl rfl rfl ?_
  refine m_callS (i := 1) (pc' := 4) (av := [_]) (rest := []) rfl rfl (by decide) lX0_51 rfl rfl (Nat.le_of_ble_eq_true rfl) (Nat.le_refl _) (Nat.le_refl _) (s_X11_isSpot (by omega) ?_)
  dsimp only [psh]
  refine x_ifeq (i := 2) (pc' := 7) (tgt := 37) rfl rfl (by decide) (by (repeat' split at *) <;> omega) (fun c1 => by exfalso; (repeat' split at *) <;> omega) (fun c1 => ?_)
  refine x_iload_n (i := 3) (pc' := 8) rfl rfl rfl rfl ?_
  refine m_callS (i := 4) (pc' := 11) (av := [_]) (rest := []) rfl rfl (by decide) lX0_51 rfl rfl (Nat.le_of_ble_eq_true rfl) (Nat.le_refl _) (Nat.le_refl _) (s_X11_isSpot (by omega) ?_)
  dsimp only [psh]
  refine x_ifeq (i := 5) (pc' := 14) (tgt := 37) rfl rfl (by decide) (by (repeat' split at *) <;> omega) (fun c2 => by exfalso; (repeat' split at *) <;> omega) (fun c2 => ?_)
  refine x_aload_n (i := 6) (pc' := 15) rfl rfl rfl rfl ?_
  refine m_getf (i := 7) (pc' := 18) rfl rfl flX0_9 (sh66 G) rfl rfl ?_
  refine x_iload_n (i := 8) (pc' := 19) rfl rfl rfl rfl ?_
  refine x_iload_n (i := 9) (pc' := 20) rfl rfl rfl rfl ?_
  refine m_callS (i := 10) (pc' := 23) (av := [_, _]) (rest := [_]) rfl rfl (by decide) lX0_55 rfl rfl (Nat.le_of_ble_eq_true rfl) (Nat.le_refl _) (Nat.le_refl _) (s_J9_max_7cf53 (by omega) (by omega) ?_)
  dsimp only [psh]
  refine x_bipush (i := 11) (pc' := 25) rfl rfl (by decide) ?_
  refine x_imul (i := 12) (pc' := 26) rfl rfl ?_
  refine x_iload_n (i := 13) (pc' := 27) rfl rfl rfl rfl ?_
  refine x_iload_n (i := 14) (pc' := 28) rfl rfl rfl rfl ?_
  refine m_callS (i := 15) (pc' := 31) (av := [_, _]) (rest := [_, _]) rfl rfl (by decide) lX0_61 rfl rfl (Nat.le_of_ble_eq_true rfl) (Nat.le_refl _) (Nat.le_refl _) (s_J9_min_7cf53 (by omega) (by omega) ?_)
  dsimp only [psh]
  refine x_iadd (i := 16) (pc' := 32) rfl rfl ?_
  refine x_dup2 (i := 17) (pc' := 33) rfl rfl rfl rfl ?_
  refine m_iald (i := 18) (pc' := 34) rfl rfl (sh67 G) (by decide) ⟨by omega, by omega⟩ ?_
  refine x_iconst (i := 19) (pc' := 35) rfl rfl ?_
  refine x_iadd (i := 20) (pc' := 36) rfl rfl ?_
  refine m_iast (i := 21) (pc' := 37) rfl rfl (sh67 G) (by decide) ⟨by omega, by omega⟩ ?_
  exact m_return (i := 22) rfl rfl (hQ)
theorem s_X0_arrange {G : GG} {m : Mem} {Q : Option Value → Mem → Prop} (hM : MR m) (hc : 0 ≤ m 64 1 ∧ m 64 1 ≤ 32) (hp : ∀ n, 0 ≤ n → n < m 64 1 → 0 ≤ m 65 n ∧ m 65 n ≤ 5) (ht : ∀ s, 0 ≤ s → s ≤ 5 → 0 ≤ m 68 s ∧ m 68 s ≤ 5) (hQ : Q none (arm m)) : CM G 9 mX0_arrange [.ref (G.2.2.2 66), .ref (G.2.2.2 64)] m Q := by
  refine CM.of dkX0_arrange (Or.inl rfl) [some _, some _, none] rfl (Nat.le_of_ble_eq_true rfl) ?_
  refine x_aload_n (i := 0) (pc' := 1) rfl rfl rfl rfl ?_
  refine m_getf (i := 1) (pc' := 4) rfl rfl flX0_9 (sh66 G) rfl rfl ?_
  refine x_iconst (i := 2) (pc' := 5) rfl rfl ?_
  refine m_callS (i := 3) (pc' := 8) (av := [_, _]) (rest := []) rfl rfl (by decide) lX0_25 rfl rfl (Nat.le_of_ble_eq_true rfl) (Nat.le_refl _) (Nat.le_refl _) (s_fill_67 ?_)
  dsimp only [psh]
  refine x_iconst (i := 4) (pc' := 9) rfl rfl ?_
  refine x_istore_n (L' := [some _, some _, some _]) (i := 5) (pc' := 10) rfl rfl rfl rfl (by decide) rfl ?_
  skip
  have e64 : flm m 67 36 0 64 = m 64 := flm_ne (by decide) _ _ _ _
  by_cases hz : m 64 1 < 1
  · have e0 : asm_ m = flm m 67 36 0 := (by unfold asm_; rw [show (m 64 1 - 1).toNat = 0 by omega]; rfl)
    have e1 := congrFun e64 1
    have hA := arm_0 hM hc hp ht
    unfold arm at hQ
    rw [e0] at hQ hA
    refine x_iload_n (i := 6) (pc' := 11) rfl rfl rfl rfl ?_
    refine x_aload_n (i := 7) (pc' := 12) rfl rfl rfl rfl ?_
    refine m_getf (i := 8) (pc' := 15) rfl rfl flX0_31 (sh64 G) rfl rfl ?_
    refine x_icmpge (i := 9) (pc' := 18) (tgt := 40) rfl rfl (by decide) ⟨by omega, by omega⟩ ⟨by omega, by omega⟩ (fun c1 => ?_) (fun c1 => by exfalso; omega)
    refine x_aload_n (i := 22) (pc' := 41) rfl rfl rfl rfl ?_
    refine x_ldc (i := 23) (pc' := 43) rfl rfl kX0_46 ?_
    refine m_putf (kz := 3) (i := 24) (pc' := 46) rfl rfl flX0_21 (sh66 G) (fun _ => rfl) rfl (Nat.le_of_ble_eq_true rfl) rfl rfl ?_
    refine x_aload_n (i := 25) (pc' := 47) rfl rfl rfl rfl ?_
    refine x_iconst (i := 26) (pc' := 48) rfl rfl ?_
    refine x_iconst (i := 27) (pc' := 49) rfl rfl ?_
    refine x_iconst (i := 28) (pc' := 50) rfl rfl ?_
    refine m_callS (i := 29) (pc' := 53) (av := [_, _, _, _]) (rest := []) rfl rfl (by decide) lX0_47 rfl rfl (Nat.le_of_ble_eq_true rfl) (Nat.le_refl _) (Nat.le_refl _) (s_X0_placeFrom 6 0 0 0 _ _ (by omega) (by omega) (by omega) (by omega) hA ?_)
    dsimp only [psh]
    exact m_return (i := 30) rfl rfl (hQ)
  · skip
    refine up_ind1 (P := fun (j : Int) (x : Mem) => BW G 9 mX0_arrange Q 10 [some (.ref (G.2.2.2 66)), some (.ref (G.2.2.2 64)), some (.int (J (j)))] [] x) (fun (j : Int) (x : Mem) => ast j x) (fun (j : Int) (x : Mem) => ASI m j x) (m 64 1) (1) (flm m 67 36 0) (by omega) (as_0 hM) (fun j x hj0 hj hi => ast_I hp (by omega) hc.2 hi) (fun j x hj0 hj hi hk => ?_) (fun hi => ?_)
    · obtain ⟨g1, g2, g3, g4, g5⟩ := hi
      have k1 := congrFun g2 1; have p1 := hp (j - 1) (by omega) (by omega); have p2 := hp j (by omega) (by omega)
      rw [← g3] at p1 p2
      have hx := mxmn p1 p2
      refine x_iload_n (i := 6) (pc' := 11) rfl rfl rfl rfl ?_
      refine x_aload_n (i := 7) (pc' := 12) rfl rfl rfl rfl ?_
      refine m_getf (i := 8) (pc' := 15) rfl rfl flX0_31 (sh64 G) rfl rfl ?_
      refine x_icmpge (i := 9) (pc' := 18) (tgt := 40) rfl rfl (by decide) ⟨by omega, by omega⟩ ⟨by omega, by omega⟩ (fun c1 => by exfalso; omega) (fun c1 => ?_)
      refine x_aload_n (i := 10) (pc' := 19) rfl rfl rfl rfl ?_
      refine x_aload_n (i := 11) (pc' := 20) rfl rfl rfl rfl ?_
      refine x_iload_n (i := 12) (pc' := 21) rfl rfl rfl rfl ?_
      refine x_iconst (i := 13) (pc' := 22) rfl rfl ?_
      refine x_isub (i := 14) (pc' := 23) rfl rfl ?_
      refine m_callV (i := 15) (pc' := 26) (av := [_]) (rest := [_]) rfl rfl (by decide) lX0_36 (sh64 G) rfl rfl rfl rfl rfl (Nat.le_of_ble_eq_true rfl) (Nat.le_refl _) (Nat.le_refl _) (s_X6_spot (by omega) (by omega) ?_)
      dsimp only [psh]
      refine x_aload_n (i := 16) (pc' := 27) rfl rfl rfl rfl ?_
      refine x_iload_n (i := 17) (pc' := 28) rfl rfl rfl rfl ?_
      refine m_callV (i := 18) (pc' := 31) (av := [_]) (rest := [_, _]) rfl rfl (by decide) lX0_36 (sh64 G) rfl rfl rfl rfl rfl (Nat.le_of_ble_eq_true rfl) (Nat.le_refl _) (Nat.le_refl _) (s_X6_spot (by omega) (by omega) ?_)
      dsimp only [psh]
      refine m_callV (i := 19) (pc' := 34) (av := [_, _]) (rest := []) rfl rfl (by decide) lX0_40 (sh66 G) rfl rfl rfl rfl rfl (Nat.le_of_ble_eq_true rfl) (Nat.le_refl _) (Nat.le_refl _) (s_X0_countStep p1 p2 ?_)
      dsimp only [psh]
      refine x_iinc (L' := [some _, some _, some _]) (i := 20) (pc' := 37) rfl rfl rfl rfl (by decide) rfl ?_
      refine x_goto (i := 21) (pc' := 10) rfl (by decide) ?_
      (unfold ast at hk; first | exact hk | (refine AW.le ?_ hk; simp [lvle]; done) | ((repeat' split at hk) <;> first | exact hk | (refine AW.le ?_ hk; simp [lvle]; done) | (exfalso; omega)))
    · have k1 := congrFun hi.2.1 1
      refine x_iload_n (i := 6) (pc' := 11) rfl rfl rfl rfl ?_
      refine x_aload_n (i := 7) (pc' := 12) rfl rfl rfl rfl ?_
      refine m_getf (i := 8) (pc' := 15) rfl rfl flX0_31 (sh64 G) rfl rfl ?_
      refine x_icmpge (i := 9) (pc' := 18) (tgt := 40) rfl rfl (by decide) ⟨by omega, by omega⟩ ⟨by omega, by omega⟩ (fun c1 => ?_) (fun c1 => by exfalso; omega)
      refine x_aload_n (i := 22) (pc' := 41) rfl rfl rfl rfl ?_
      refine x_ldc (i := 23) (pc' := 43) rfl rfl kX0_46 ?_
      refine m_putf (kz := 3) (i := 24) (pc' := 46) rfl rfl flX0_21 (sh66 G) (fun _ => rfl) rfl (Nat.le_of_ble_eq_true rfl) rfl rfl ?_
      refine x_aload_n (i := 25) (pc' := 47) rfl rfl rfl rfl ?_
      refine x_iconst (i := 26) (pc' := 48) rfl rfl ?_
      refine x_iconst (i := 27) (pc' := 49) rfl rfl ?_
      refine x_iconst (i := 28) (pc' := 50) rfl rfl ?_
      refine m_callS (i := 29) (pc' := 53) (av := [_, _, _, _]) (rest := []) rfl rfl (by decide) lX0_47 rfl rfl (Nat.le_of_ble_eq_true rfl) (Nat.le_refl _) (Nat.le_refl _) (s_X0_placeFrom 6 0 0 0 _ _ (by omega) (by omega) (by omega) (by omega) (arm_0 hM hc hp ht) ?_)
      dsimp only [psh]
      exact m_return (i := 30) rfl rfl (hQ)
