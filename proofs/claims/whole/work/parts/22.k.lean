theorem ia_le (a b : Int) : ia a b ≤ b.toNat ∧ ia a b ≤ a.toNat := by
  unfold ia
  have h1 := Nat.and_le_right (n := a.toNat) (m := b.toNat)
  have h2 := Nat.and_le_left (n := a.toNat) (m := b.toNat)
  omega
theorem io_lt {a b : Int} (n : Nat) (ha : 0 ≤ a ∧ a < 2 ^ n) (hb : 0 ≤ b ∧ b < 2 ^ n) : io a b < 2 ^ n := by
  have h2 : ((2 ^ n : Nat) : Int) = (2 : Int) ^ n := by simp
  have h := Nat.or_lt_two_pow (n := n) (x := a.toNat) (y := b.toNat) (by omega) (by omega)
  unfold io
  omega
theorem pw3 {j : Int} (h : 0 ≤ j ∧ j ≤ 3) : 1 ≤ (1 : Int) * 2 ^ j.toNat ∧ (1 : Int) * 2 ^ j.toNat ≤ 8 := by
  rcases (by omega : j = 0 ∨ j = 1 ∨ j = 2 ∨ j = 3) with rfl | rfl | rfl | rfl <;> decide
theorem pw5 {j : Int} (h : 0 ≤ j ∧ j ≤ 5) : 1 ≤ (1 : Int) * 2 ^ j.toNat ∧ (1 : Int) * 2 ^ j.toNat < 64 := by
  rcases (by omega : j = 0 ∨ j = 1 ∨ j = 2 ∨ j = 3 ∨ j = 4 ∨ j = 5) with rfl | rfl | rfl | rfl | rfl | rfl <;> decide
theorem df_16 (m : Mem) (a b : Int) : 0 ≤ df m a b ∧ df m a b < 16 := by
  have k : ∀ (c : Prop) [Decidable c] (x : Int) (p : Nat), p < 4 → 0 ≤ x ∧ x < 16 → 0 ≤ (if c then x else io x (1 * 2 ^ p)) ∧ (if c then x else io x (1 * 2 ^ p)) < 16 := by
    intro c _ x p hp hx
    split
    · exact hx
    · refine ⟨io_nn _ _, io_lt 4 (by omega) ?_⟩
      rcases (by omega : p = 0 ∨ p = 1 ∨ p = 2 ∨ p = 3) with rfl | rfl | rfl | rfl <;> decide
  have r := k (m 3 (a * 5 + 3) = m 3 (b * 5 + 3)) _ 3 (by omega) (k (m 3 (a * 5 + 2) = m 3 (b * 5 + 2)) _ 2 (by omega) (k (m 3 (a * 5 + 1) = m 3 (b * 5 + 1)) _ 1 (by omega) (k (m 3 (a * 5 + 0) = m 3 (b * 5 + 0)) 0 0 (by omega) (by omega))))
  have e : df m a b < 16 ∧ 0 ≤ df m a b := ⟨r.2, r.1⟩
  omega
def cj (j k : Int) (x : Mem) : Mem := stm x 74 (df x j k) (x 74 (df x j k) + 1)
def crw (n j : Int) (x : Mem) : Mem := it (fun k x => cj j k x) (j + 1) (n - (j + 1)).toNat x
def cmm (m : Mem) : Mem := it (fun j x => crw (m 2 2) j x) 0 (m 2 2).toNat (flm m 74 16 0)
def CJI (m : Mem) (b : Int) (x : Mem) : Prop := SW m x ∧ MR x ∧ ∀ i, 0 ≤ i → i < 16 → 0 ≤ x 74 i ∧ x 74 i ≤ b
theorem cj_I {m : Mem} {j k b : Int} {x : Mem} (hb : 0 ≤ b ∧ b ≤ 1000) (h : CJI m b x) : CJI m (b + 1) (cj j k x) := by
  obtain ⟨h1, h2, h3⟩ := h
  have hd := df_16 x j k
  have h4 := h3 _ hd.1 hd.2
  refine ⟨h1.st (by decide) _ _, h2.st (by omega), fun i a c => ?_⟩
  have h5 := h3 i a c
  unfold cj
  by_cases hi : i = df x j k
  · rw [hi, stm_eq]; omega
  · rw [stm_ix _ _ _ hi]; omega
theorem it_Ij {α : Type} {f : Int → α → α} (I : Int → α → Prop) : ∀ (n : Nat) (j : Int) (x : α), (∀ i y, j ≤ i → i < j + n → I i y → I (i + 1) (f i y)) → I j x → I (j + n) (it f j n x)
  | 0, j, x, _, h => by rw [show j + ((0 : Nat) : Int) = j by omega]; exact h
  | n + 1, j, x, hf, h => by
    have := it_Ij I n (j + 1) (f j x) (fun i y h1 h2 => hf i y (by omega) (by omega)) (hf j x (by omega) (by omega) h)
    rw [show j + ((n + 1 : Nat) : Int) = j + 1 + (n : Int) by omega]
    exact this
theorem crw_I {m : Mem} {n j : Int} {x : Mem} (hn : n ≤ 16) (hj : 0 ≤ j ∧ j < n) (h : CJI m (j * 16) x) : CJI m ((j + 1) * 16) (crw n j x) := by
  have h0 : CJI m (j * 16 + (j + 1)) x := ⟨h.1, h.2.1, fun i a c => by have := h.2.2 i a c; omega⟩
  have := it_Ij (f := fun k x => cj j k x) (fun k x => CJI m (j * 16 + k) x) (n - (j + 1)).toNat (j + 1) x (fun i y h1 h2 h3 => by
    have := cj_I (m := m) (j := j) (k := i) (b := j * 16 + i) (x := y) (by omega) h3
    rw [show j * 16 + (i + 1) = j * 16 + i + 1 by omega]; exact this) h0
  exact ⟨this.1, this.2.1, fun i a c => by have := this.2.2 i a c; unfold crw; omega⟩
def mpr (m : Mem) (a : Int) : Int := it (fun p x => if a = -1 ∨ a = p then x + m 74 (1 * 2 ^ p.toNat) else x) 0 4 0
def suf (m : Mem) (a : Int) : Prop := ∀ d, 0 ≤ d → d < 16 → ¬ (0 < m 74 d ∧ ia d a = 0)
noncomputable def lsf (m : Mem) : Int := it (fun s x => if pop s < pop x ∧ ¬ bp (suf m s) = 0 then s else x) 0 16 15
theorem fl_get {q : Nat} {v : Int} : ∀ (n : Nat) (j i : Int) (m : Mem), (j ≤ i ∧ i < j + n → it (fun j (x : Mem) => stm x q j v) j n m q i = v) ∧ (¬ (j ≤ i ∧ i < j + n) → it (fun j (x : Mem) => stm x q j v) j n m q i = m q i)
  | 0, j, i, m => ⟨fun h => by omega, fun _ => rfl⟩
  | n + 1, j, i, m => by
    have ih := fl_get (q := q) (v := v) n (j + 1) i (stm m q j v)
    rw [it]
    constructor
    · intro h
      by_cases hi : i = j
      · subst hi; rw [ih.2 (by omega), stm_eq]
      · exact ih.1 (by omega)
    · intro h
      rw [ih.2 (by omega), stm_ix _ _ _ (by omega)]
theorem s_X2_countPair {G : GG} {m : Mem} {Q : Option Value → Mem → Prop} {a : Int} (ha : 0 ≤ a ∧ a ≤ 15) (hQ : Q none (stm m 74 a (m 74 a + 1))) : CM G 1 mX2_countPair [.ref (G.2.2.2 73), .int (J (a))] m Q := by
  refine CM.of dkX2_countPair (Or.inl rfl) [some _, some _] rfl (Nat.le_of_ble_eq_true rfl) ?_
  refine x_iload_n (i := 0) (pc' := 1) rfl rfl rfl rfl ?_
  refine x_iconst (i := 1) (pc' := 2) rfl rfl ?_
  refine x_bipush (i := 2) (pc' := 4) rfl rfl (by decide) ?_
  refine m_callS (i := 3) (pc' := 7) (av := [_, _, _]) (rest := []) rfl rfl (by decide) lX2_35 rfl rfl (Nat.le_of_ble_eq_true rfl) (Nat.le_refl _) (Nat.le_refl _) (s_X11_isWithin (by omega) (by omega) (by omega) ?_)
  dsimp only [psh]
  refine x_ifeq (i := 4) (pc' := 10) (tgt := 20) rfl rfl (by decide) (by (repeat' split at *) <;> omega) (fun c1 => by exfalso; (repeat' split at *) <;> omega) (fun c1 => ?_)
  refine x_aload_n (i := 5) (pc' := 11) rfl rfl rfl rfl ?_
  refine m_getf (i := 6) (pc' := 14) rfl rfl flX2_11 (sh73 G) rfl rfl ?_
  refine x_iload_n (i := 7) (pc' := 15) rfl rfl rfl rfl ?_
  refine x_dup2 (i := 8) (pc' := 16) rfl rfl rfl rfl ?_
  refine m_iald (i := 9) (pc' := 17) rfl rfl (sh74 G) (by decide) ⟨by omega, by omega⟩ ?_
  refine x_iconst (i := 10) (pc' := 18) rfl rfl ?_
  refine x_iadd (i := 11) (pc' := 19) rfl rfl ?_
  refine m_iast (i := 12) (pc' := 20) rfl rfl (sh74 G) (by decide) ⟨by omega, by omega⟩ ?_
  exact m_return (i := 13) rfl rfl (hQ)
theorem s_X2_compare {G : GG} {m : Mem} {Q : Option Value → Mem → Prop} (hM : MR m) (hn : CN m) (hQ : Q none (cmm m)) : CM G 2 mX2_compare [.ref (G.2.2.2 73), .ref (G.2.2.2 2)] m Q := by
  refine CM.of dkX2_compare (Or.inl rfl) [some _, some _, none, none] rfl (Nat.le_of_ble_eq_true rfl) ?_
  have hn0 := hn.1; have hn1 := hn.2
  refine x_aload_n (i := 0) (pc' := 1) rfl rfl rfl rfl ?_
  refine m_getf (i := 1) (pc' := 4) rfl rfl flX2_11 (sh73 G) rfl rfl ?_
  refine x_iconst (i := 2) (pc' := 5) rfl rfl ?_
  refine m_callS (i := 3) (pc' := 8) (av := [_, _]) (rest := []) rfl rfl (by decide) lX2_15 rfl rfl (Nat.le_of_ble_eq_true rfl) (Nat.le_refl _) (Nat.le_refl _) (s_fill_74 ?_)
  dsimp only [psh]
  refine x_iconst (i := 4) (pc' := 9) rfl rfl ?_
  refine x_istore_n (L' := [some _, some _, some _, none]) (i := 5) (pc' := 10) rfl rfl rfl rfl (by decide) rfl ?_
  skip
  refine up_ind1 (P := fun (j : Int) (x : Mem) => BW G 2 mX2_compare Q 10 [some (.ref (G.2.2.2 73)), some (.ref (G.2.2.2 2)), some (.int (J (j))), none] [] x) (fun (j : Int) (x : Mem) => crw (m 2 2) j x) (fun (j : Int) (x : Mem) => CJI m (j * 16) x) (m 2 2) (0) (flm m 74 16 0) (by omega) (⟨⟨flm_ne (by decide) _ _ _ _, flm_ne (by decide) _ _ _ _, flm_ne (by decide) _ _ _ _, flm_ne (by decide) _ _ _ _⟩, flm_MR (by decide) _ _ _ hM, fun i a c => by (have h9 := (fl_get (q := 74) (v := 0) 16 0 i m).1 (by omega); unfold flm; omega)⟩) (fun j x hj0 hj hi => crw_I hn.2 (by omega) hi) (fun j x hj0 hj hi hk => ?_) (fun hi => ?_)
  · have k3 := congrFun hi.1.1 2
    refine x_iload_n (i := 6) (pc' := 11) rfl rfl rfl rfl ?_
    refine x_aload_n (i := 7) (pc' := 12) rfl rfl rfl rfl ?_
    refine m_getf (i := 8) (pc' := 15) rfl rfl flX2_21 (sh2 G) rfl rfl ?_
    refine x_icmpge (i := 9) (pc' := 18) (tgt := 52) rfl rfl (by decide) ⟨by omega, by omega⟩ ⟨by omega, by omega⟩ (fun c1 => by exfalso; omega) (fun c1 => ?_)
    refine x_iload_n (i := 10) (pc' := 19) rfl rfl rfl rfl ?_
    refine x_iconst (i := 11) (pc' := 20) rfl rfl ?_
    refine x_iadd (i := 12) (pc' := 21) rfl rfl ?_
    refine x_istore_n (L' := [some _, some _, some _, some _]) (i := 13) (pc' := 22) rfl rfl rfl rfl (by decide) rfl ?_
    refine up_ind1 (P := fun (k : Int) (y : Mem) => BW G 2 mX2_compare Q 22 [some (.ref (G.2.2.2 73)), some (.ref (G.2.2.2 2)), some (.int (J (j))), some (.int (J (k)))] [] y) (fun (k : Int) (y : Mem) => cj j k y) (fun (k : Int) (y : Mem) => CJI m (j * 16 + k) y) (m 2 2) (j + 1) (x) (by omega) (⟨hi.1, hi.2.1, fun i a c => by (have := hi.2.2 i a c; omega)⟩) (fun k y hj02 hj2 hi2 => by (have h9 := cj_I (j := j) (k := k) (by omega) hi2; rw [show j * 16 + (k + 1) = j * 16 + k + 1 by omega]; exact h9)) (fun k y hj02 hj2 hi2 hk2 => ?_) (fun hi2 => ?_)
    · have k3 := congrFun hi2.1.1 2
      have hdf := df_16 y j k
      refine x_iload_n (i := 14) (pc' := 23) rfl rfl rfl rfl ?_
      refine x_aload_n (i := 15) (pc' := 24) rfl rfl rfl rfl ?_
      refine m_getf (i := 16) (pc' := 27) rfl rfl flX2_21 (sh2 G) rfl rfl ?_
      refine x_icmpge (i := 17) (pc' := 30) (tgt := 46) rfl rfl (by decide) ⟨by omega, by omega⟩ ⟨by omega, by omega⟩ (fun e1 => by exfalso; omega) (fun e1 => ?_)
      refine x_aload_n (i := 18) (pc' := 31) rfl rfl rfl rfl ?_
      refine x_aload_n (i := 19) (pc' := 32) rfl rfl rfl rfl ?_
      refine x_iload_n (i := 20) (pc' := 33) rfl rfl rfl rfl ?_
      refine x_iload_n (i := 21) (pc' := 34) rfl rfl rfl rfl ?_
      refine m_callV (i := 22) (pc' := 37) (av := [_, _]) (rest := [_]) rfl rfl (by decide) lX2_27 (sh2 G) rfl rfl rfl rfl rfl (Nat.le_of_ble_eq_true rfl) (Nat.le_refl _) (Nat.le_refl _) (s_X3_differingParts hi2.2.1 (by omega) (by omega) ?_)
      dsimp only [psh]
      refine m_callV (i := 23) (pc' := 40) (av := [_]) (rest := []) rfl rfl (by decide) lX2_31 (sh73 G) rfl rfl rfl rfl rfl (Nat.le_of_ble_eq_true rfl) (Nat.le_refl _) (Nat.le_refl _) (s_X2_countPair (by omega) ?_)
      dsimp only [psh]
      refine x_iinc (L' := [some _, some _, some _, some _]) (i := 24) (pc' := 43) rfl rfl rfl rfl (by decide) rfl ?_
      refine x_goto (i := 25) (pc' := 22) rfl (by decide) ?_
      (first | exact hk2 | (refine AW.le ?_ hk2; simp [lvle]; done) | ((repeat' split at hk2) <;> first | exact hk2 | (refine AW.le ?_ hk2; simp [lvle]; done) | (exfalso; omega)))
    · have k3 := congrFun hi2.1.1 2
      refine x_iload_n (i := 14) (pc' := 23) rfl rfl rfl rfl ?_
      refine x_aload_n (i := 15) (pc' := 24) rfl rfl rfl rfl ?_
      refine m_getf (i := 16) (pc' := 27) rfl rfl flX2_21 (sh2 G) rfl rfl ?_
      refine x_icmpge (i := 17) (pc' := 30) (tgt := 46) rfl rfl (by decide) ⟨by omega, by omega⟩ ⟨by omega, by omega⟩ (fun f1 => ?_) (fun f1 => by exfalso; omega)
      refine x_iinc (L' := [some _, some _, some _, some _]) (i := 26) (pc' := 49) rfl rfl rfl rfl (by decide) rfl ?_
      refine x_goto (i := 27) (pc' := 10) rfl (by decide) ?_
      (unfold crw at hk; first | exact hk | (refine AW.le ?_ hk; simp [lvle]; done) | ((repeat' split at hk) <;> first | exact hk | (refine AW.le ?_ hk; simp [lvle]; done) | (exfalso; omega)))
  · have k3 := congrFun hi.1.1 2
    refine x_iload_n (i := 6) (pc' := 11) rfl rfl rfl rfl ?_
    refine x_aload_n (i := 7) (pc' := 12) rfl rfl rfl rfl ?_
    refine m_getf (i := 8) (pc' := 15) rfl rfl flX2_21 (sh2 G) rfl rfl ?_
    refine x_icmpge (i := 9) (pc' := 18) (tgt := 52) rfl rfl (by decide) ⟨by omega, by omega⟩ ⟨by omega, by omega⟩ (fun c1 => ?_) (fun c1 => by exfalso; omega)
    exact m_return (i := 28) rfl rfl (by rw [Int.sub_zero]; exact hQ)
theorem s_X2_minimalPairs {G : GG} {m : Mem} {Q : Option Value → Mem → Prop} {a : Int} (ha : rg a) (hQ : Q (some (.int (J (mpr m a)))) m) : CM G 0 mX2_minimalPairs [.ref (G.2.2.2 73), .int (J (a))] m Q := by
  refine CM.of dkX2_minimalPairs (Or.inl rfl) [some _, some _, none, none] rfl (Nat.le_of_ble_eq_true rfl) ?_
  refine x_iconst (i := 0) (pc' := 1) rfl rfl ?_
  refine x_istore_n (L' := [some _, some _, some _, none]) (i := 1) (pc' := 2) rfl rfl rfl rfl (by decide) rfl ?_
  refine x_iconst (i := 2) (pc' := 3) rfl rfl ?_
  refine x_istore_n (L' := [some _, some _, some _, some _]) (i := 3) (pc' := 4) rfl rfl rfl rfl (by decide) rfl ?_
  skip
  refine up_ind0 (P := fun (j : Int) (x : Int) => BW G 0 mX2_minimalPairs Q 4 [some (.ref (G.2.2.2 73)), some (.int (J (a))), some (.int (J (x))), some (.int (J (j)))] [] m) (fun (j : Int) (x : Int) => if a = -1 ∨ a = j then x + m 74 (1 * 2 ^ j.toNat) else x) (4) (0) (0) (by omega) (fun j x hj0 hj hk => ?_) ?_
  · have hpw := pw3 (j := j) (by omega)
    refine x_iload_n (i := 4) (pc' := 5) rfl rfl rfl rfl ?_
    refine x_iconst (i := 5) (pc' := 6) rfl rfl ?_
    refine x_icmpge (i := 6) (pc' := 9) (tgt := 36) rfl rfl (by decide) ⟨by omega, by omega⟩ ⟨by omega, by omega⟩ (fun c1 => by exfalso; omega) (fun c1 => ?_)
    refine x_iload_n (i := 7) (pc' := 10) rfl rfl rfl rfl ?_
    refine x_iconst (i := 8) (pc' := 11) rfl rfl ?_
    refine x_icmpeq (i := 9) (pc' := 14) (tgt := 19) rfl rfl (by decide) ⟨by omega, by omega⟩ ⟨by omega, by omega⟩ (fun c2 => ?_) (fun c2 => ?_)
    · skip
      refine x_iload_n (i := 13) (pc' := 20) rfl rfl rfl rfl ?_
      refine x_aload_n (i := 14) (pc' := 21) rfl rfl rfl rfl ?_
      refine m_getf (i := 15) (pc' := 24) rfl rfl flX2_11 (sh73 G) rfl rfl ?_
      refine x_iconst (i := 16) (pc' := 25) rfl rfl ?_
      refine x_iload_n (i := 17) (pc' := 26) rfl rfl rfl rfl ?_
      refine x_ishl (i := 18) (pc' := 27) rfl rfl (by omega) (by omega) ?_
      refine m_iald (i := 19) (pc' := 28) rfl rfl (sh74 G) (by decide) ⟨by omega, by omega⟩ ?_
      refine x_iadd (i := 20) (pc' := 29) rfl rfl ?_
      refine x_istore_n (L' := [some _, some _, some _, some _]) (i := 21) (pc' := 30) rfl rfl rfl rfl (by decide) rfl ?_
      refine x_iinc (L' := [some _, some _, some _, some _]) (i := 22) (pc' := 33) rfl rfl rfl rfl (by decide) rfl ?_
      refine x_goto (i := 23) (pc' := 4) rfl (by decide) ?_
      (first | exact hk | (refine AW.le ?_ hk; simp [lvle]; done) | ((repeat' split at hk) <;> first | exact hk | (refine AW.le ?_ hk; simp [lvle]; done) | (exfalso; omega)))
    · skip
      refine x_iload_n (i := 10) (pc' := 15) rfl rfl rfl rfl ?_
      refine x_iload_n (i := 11) (pc' := 16) rfl rfl rfl rfl ?_
      refine x_icmpne (i := 12) (pc' := 19) (tgt := 30) rfl rfl (by decide) ⟨by omega, by omega⟩ ⟨by omega, by omega⟩ (fun c3 => ?_) (fun c3 => ?_)
      · skip
        refine x_iinc (L' := [some _, some _, some _, some _]) (i := 22) (pc' := 33) rfl rfl rfl rfl (by decide) rfl ?_
        refine x_goto (i := 23) (pc' := 4) rfl (by decide) ?_
        (first | exact hk | (refine AW.le ?_ hk; simp [lvle]; done) | ((repeat' split at hk) <;> first | exact hk | (refine AW.le ?_ hk; simp [lvle]; done) | (exfalso; omega)))
      · skip
        refine x_iload_n (i := 13) (pc' := 20) rfl rfl rfl rfl ?_
        refine x_aload_n (i := 14) (pc' := 21) rfl rfl rfl rfl ?_
        refine m_getf (i := 15) (pc' := 24) rfl rfl flX2_11 (sh73 G) rfl rfl ?_
        refine x_iconst (i := 16) (pc' := 25) rfl rfl ?_
        refine x_iload_n (i := 17) (pc' := 26) rfl rfl rfl rfl ?_
        refine x_ishl (i := 18) (pc' := 27) rfl rfl (by omega) (by omega) ?_
        refine m_iald (i := 19) (pc' := 28) rfl rfl (sh74 G) (by decide) ⟨by omega, by omega⟩ ?_
        refine x_iadd (i := 20) (pc' := 29) rfl rfl ?_
        refine x_istore_n (L' := [some _, some _, some _, some _]) (i := 21) (pc' := 30) rfl rfl rfl rfl (by decide) rfl ?_
        refine x_iinc (L' := [some _, some _, some _, some _]) (i := 22) (pc' := 33) rfl rfl rfl rfl (by decide) rfl ?_
        refine x_goto (i := 23) (pc' := 4) rfl (by decide) ?_
        (first | exact hk | (refine AW.le ?_ hk; simp [lvle]; done) | ((repeat' split at hk) <;> first | exact hk | (refine AW.le ?_ hk; simp [lvle]; done) | (exfalso; omega)))
  · skip
    refine x_iload_n (i := 4) (pc' := 5) rfl rfl rfl rfl ?_
    refine x_iconst (i := 5) (pc' := 6) rfl rfl ?_
    refine x_icmpge (i := 6) (pc' := 9) (tgt := 36) rfl rfl (by decide) ⟨by omega, by omega⟩ ⟨by omega, by omega⟩ (fun c1 => ?_) (fun c1 => by exfalso; omega)
    refine x_iload_n (i := 24) (pc' := 37) rfl rfl rfl rfl ?_
    exact m_ireturn (i := 25) rfl rfl (hQ)
theorem s_X2_isSufficient {G : GG} {m : Mem} {Q : Option Value → Mem → Prop} {a : Int} (hM : MR m) (ha : 0 ≤ a ∧ a ≤ 15) (hQ : Q (some (.int (J (bp (suf m a))))) m) : CM G 0 mX2_isSufficient [.ref (G.2.2.2 73), .int (J (a))] m Q := by
  refine CM.of dkX2_isSufficient (Or.inl rfl) [some _, some _, none] rfl (Nat.le_of_ble_eq_true rfl) ?_
  refine x_iconst (i := 0) (pc' := 1) rfl rfl ?_
  refine x_istore_n (L' := [some _, some _, some _]) (i := 1) (pc' := 2) rfl rfl rfl rfl (by decide) rfl ?_
  skip
  refine all_ind (P := fun j => BW G 0 mX2_isSufficient Q 2 [some (.ref (G.2.2.2 73)), some (.int (J (a))), some (.int (J (j)))] [] m) (Z := fun r => Q (some (.int (J r))) m) (fun d => ¬ (0 < m 74 d ∧ ia d a = 0)) 16 0 (by omega) (fun hz => ?_) (fun j hj0 hj h1 h2 => ?_) hQ
  · skip
    refine x_iload_n (i := 2) (pc' := 3) rfl rfl rfl rfl ?_
    refine x_bipush (i := 3) (pc' := 5) rfl rfl (by decide) ?_
    refine x_icmpge (i := 4) (pc' := 8) (tgt := 31) rfl rfl (by decide) ⟨by omega, by omega⟩ ⟨by omega, by omega⟩ (fun c1 => ?_) (fun c1 => by exfalso; omega)
    refine x_iconst (i := 18) (pc' := 32) rfl rfl ?_
    exact m_zreturn (i := 19) rfl rfl (by omega) (hz)
  · have hl := ia_le j a; have hl2 := ia_nn j a
    refine x_iload_n (i := 2) (pc' := 3) rfl rfl rfl rfl ?_
    refine x_bipush (i := 3) (pc' := 5) rfl rfl (by decide) ?_
    refine x_icmpge (i := 4) (pc' := 8) (tgt := 31) rfl rfl (by decide) (by first | omega | exact hM _ _) (by first | omega | exact hM _ _) (fun c1 => by exfalso; omega) (fun c1 => ?_)
    refine x_aload_n (i := 5) (pc' := 9) rfl rfl rfl rfl ?_
    refine m_getf (i := 6) (pc' := 12) rfl rfl flX2_11 (sh73 G) rfl rfl ?_
    refine x_iload_n (i := 7) (pc' := 13) rfl rfl rfl rfl ?_
    refine m_iald (i := 8) (pc' := 14) rfl rfl (sh74 G) (by decide) ⟨by omega, by omega⟩ ?_
    refine x_ifle (i := 9) (pc' := 17) (tgt := 25) rfl rfl (by decide) (by first | omega | exact hM _ _) (fun c2 => ?_) (fun c2 => ?_)
    · skip
      refine x_iinc (L' := [some _, some _, some _]) (i := 16) (pc' := 28) rfl rfl rfl rfl (by decide) rfl ?_
      refine x_goto (i := 17) (pc' := 2) rfl (by decide) ?_
      exact h2 (by omega)
    · skip
      refine x_iload_n (i := 10) (pc' := 18) rfl rfl rfl rfl ?_
      refine x_iload_n (i := 11) (pc' := 19) rfl rfl rfl rfl ?_
      refine x_iand (i := 12) (pc' := 20) rfl rfl (by omega) (by omega) ?_
      refine x_ifne (i := 13) (pc' := 23) (tgt := 25) rfl rfl (by decide) (by first | omega | exact hM _ _) (fun c3 => ?_) (fun c3 => ?_)
      · skip
        refine x_iinc (L' := [some _, some _, some _]) (i := 16) (pc' := 28) rfl rfl rfl rfl (by decide) rfl ?_
        refine x_goto (i := 17) (pc' := 2) rfl (by decide) ?_
        exact h2 (by omega)
      · skip
        refine x_iconst (i := 14) (pc' := 24) rfl rfl ?_
        exact m_zreturn (i := 15) rfl rfl (by omega) (h1 (by omega))
theorem s_X2_leastSufficient {G : GG} {m : Mem} {Q : Option Value → Mem → Prop} (hM : MR m) (hQ : Q (some (.int (J (lsf m)))) m) : CM G 1 mX2_leastSufficient [.ref (G.2.2.2 73)] m Q := by
  refine CM.of dkX2_leastSufficient (Or.inl rfl) [some _, none, none] rfl (Nat.le_of_ble_eq_true rfl) ?_
  refine x_bipush (i := 0) (pc' := 2) rfl rfl (by decide) ?_
  refine x_istore_n (L' := [some _, some _, none]) (i := 1) (pc' := 3) rfl rfl rfl rfl (by decide) rfl ?_
  refine x_iconst (i := 2) (pc' := 4) rfl rfl ?_
  refine x_istore_n (L' := [some _, some _, some _]) (i := 3) (pc' := 5) rfl rfl rfl rfl (by decide) rfl ?_
  skip
  refine up_ind1 (P := fun (j : Int) (x : Int) => BW G 1 mX2_leastSufficient Q 5 [some (.ref (G.2.2.2 73)), some (.int (J (x))), some (.int (J (j)))] [] m) (fun (j : Int) (x : Int) => if pop j < pop x ∧ ¬ bp (suf m j) = 0 then j else x) (fun (j : Int) (x : Int) => 0 ≤ x ∧ x ≤ 15) (16) (0) (15) (by omega) (by omega) (fun j x hj0 hj hi => by split <;> omega) (fun j x hj0 hj hi hk => ?_) (fun hi => ?_)
  · have p1 := pop_le j; have p2 := pop_le x; have hb := bp_01 (suf m j)
    refine x_iload_n (i := 4) (pc' := 6) rfl rfl rfl rfl ?_
    refine x_bipush (i := 5) (pc' := 8) rfl rfl (by decide) ?_
    refine x_icmpge (i := 6) (pc' := 11) (tgt := 38) rfl rfl (by decide) ⟨by omega, by omega⟩ ⟨by omega, by omega⟩ (fun c1 => by exfalso; omega) (fun c1 => ?_)
    refine x_iload_n (i := 7) (pc' := 12) rfl rfl rfl rfl ?_
    refine m_callS (i := 8) (pc' := 15) (av := [_]) (rest := []) rfl rfl (by decide) lX2_39 rfl rfl (Nat.le_of_ble_eq_true rfl) (Nat.le_refl _) (Nat.le_refl _) (s_J6_bitCount_0f7a4 (by omega) ?_)
    dsimp only [psh]
    refine x_iload_n (i := 9) (pc' := 16) rfl rfl rfl rfl ?_
    refine m_callS (i := 10) (pc' := 19) (av := [_]) (rest := [_]) rfl rfl (by decide) lX2_39 rfl rfl (Nat.le_of_ble_eq_true rfl) (Nat.le_refl _) (Nat.le_refl _) (s_J6_bitCount_0f7a4 (by omega) ?_)
    dsimp only [psh]
    refine x_icmpge (i := 11) (pc' := 22) (tgt := 32) rfl rfl (by decide) ⟨by omega, by omega⟩ ⟨by omega, by omega⟩ (fun c2 => ?_) (fun c2 => ?_)
    · skip
      refine x_iinc (L' := [some _, some _, some _]) (i := 18) (pc' := 35) rfl rfl rfl rfl (by decide) rfl ?_
      refine x_goto (i := 19) (pc' := 5) rfl (by decide) ?_
      (first | exact hk | (refine AW.le ?_ hk; simp [lvle]; done) | ((repeat' split at hk) <;> first | exact hk | (refine AW.le ?_ hk; simp [lvle]; done) | (exfalso; omega)))
    · skip
      refine x_aload_n (i := 12) (pc' := 23) rfl rfl rfl rfl ?_
      refine x_iload_n (i := 13) (pc' := 24) rfl rfl rfl rfl ?_
      refine m_callV (i := 14) (pc' := 27) (av := [_]) (rest := []) rfl rfl (by decide) lX2_45 (sh73 G) rfl rfl rfl rfl rfl (Nat.le_of_ble_eq_true rfl) (Nat.le_refl _) (Nat.le_refl _) (s_X2_isSufficient hM (by omega) ?_)
      dsimp only [psh]
      refine x_ifeq (i := 15) (pc' := 30) (tgt := 32) rfl rfl (by decide) ⟨by omega, by omega⟩ (fun c3 => ?_) (fun c3 => ?_)
      · skip
        refine x_iinc (L' := [some _, some _, some _]) (i := 18) (pc' := 35) rfl rfl rfl rfl (by decide) rfl ?_
        refine x_goto (i := 19) (pc' := 5) rfl (by decide) ?_
        (first | exact hk | (refine AW.le ?_ hk; simp [lvle]; done) | ((repeat' split at hk) <;> first | exact hk | (refine AW.le ?_ hk; simp [lvle]; done) | (exfalso; omega)))
      · skip
        refine x_iload_n (i := 16) (pc' := 31) rfl rfl rfl rfl ?_
        refine x_istore_n (L' := [some _, some _, some _]) (i := 17) (pc' := 32) rfl rfl rfl rfl (by decide) rfl ?_
        refine x_iinc (L' := [some _, some _, some _]) (i := 18) (pc' := 35) rfl rfl rfl rfl (by decide) rfl ?_
        refine x_goto (i := 19) (pc' := 5) rfl (by decide) ?_
        (first | exact hk | (refine AW.le ?_ hk; simp [lvle]; done) | ((repeat' split at hk) <;> first | exact hk | (refine AW.le ?_ hk; simp [lvle]; done) | (exfalso; omega)))
  · skip
    refine x_iload_n (i := 4) (pc' := 6) rfl rfl rfl rfl ?_
    refine x_bipush (i := 5) (pc' := 8) rfl rfl (by decide) ?_
    refine x_icmpge (i := 6) (pc' := 11) (tgt := 38) rfl rfl (by decide) ⟨by omega, by omega⟩ ⟨by omega, by omega⟩ (fun c1 => ?_) (fun c1 => by exfalso; omega)
    refine x_iload_n (i := 20) (pc' := 39) rfl rfl rfl rfl ?_
    exact m_ireturn (i := 21) rfl rfl (hQ)
