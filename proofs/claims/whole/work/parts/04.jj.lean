def J (z : Int) : Int32 := Int32.ofInt z
def JL (z : Int) : Int64 := Int64.ofInt z
/-! ===== whole numbers under J ===== -/
abbrev rg (a : Int) : Prop := -2147483648 ≤ a ∧ a < 2147483648
abbrev rl (a : Int) : Prop := -9223372036854775808 ≤ a ∧ a < 9223372036854775808
def ia (a b : Int) : Int := ((a.toNat &&& b.toNat : Nat) : Int)
def io (a b : Int) : Int := ((a.toNat ||| b.toNat : Nat) : Int)
def ix (a b : Int) : Int := ((a.toNat ^^^ b.toNat : Nat) : Int)
theorem J_toInt {a : Int} (h : rg a) : (J a).toInt = a := Int32.toInt_ofInt_of_le (by have := h.1; omega) (by have := h.2; omega)
theorem JL_toInt {a : Int} (h : rl a) : (JL a).toInt = a := Int64.toInt_ofInt_of_le (by have := h.1; omega) (by have := h.2; omega)
theorem J_of (x : Int32) : x = J x.toInt := (Int32.ofInt_toInt x).symm
theorem J_rg (x : Int32) : rg x.toInt := ⟨by have := x.le_toInt; omega, by have := x.toInt_lt; omega⟩
theorem J_add (a b : Int) : J a + J b = J (a + b) := (Int32.ofInt_add a b).symm
theorem J_sub (a b : Int) : J a - J b = J (a - b) := (Int32.ofInt_sub a b).symm
theorem J_mul (a b : Int) : J a * J b = J (a * b) := (Int32.ofInt_mul a b).symm
theorem J_neg (a : Int) : - J a = J (-a) := Int32.neg_ofInt
theorem JL_add (a b : Int) : JL a + JL b = JL (a + b) := (Int64.ofInt_add a b).symm
theorem JL_mul (a b : Int) : JL a * JL b = JL (a * b) := (Int64.ofInt_mul a b).symm
theorem JL_sub (a b : Int) : JL a - JL b = JL (a - b) := (Int64.ofInt_sub a b).symm
theorem J_lt {a b : Int} (ha : rg a) (hb : rg b) : J a < J b ↔ a < b := by rw [Int32.lt_iff_toInt_lt, J_toInt ha, J_toInt hb]
theorem J_le {a b : Int} (ha : rg a) (hb : rg b) : J a ≤ J b ↔ a ≤ b := by rw [Int32.le_iff_toInt_le, J_toInt ha, J_toInt hb]
theorem J_eq {a b : Int} (ha : rg a) (hb : rg b) : J a = J b ↔ a = b := ⟨fun h => by rw [← J_toInt ha, ← J_toInt hb, h], fun h => by rw [h]⟩
theorem JL_lt {a b : Int} (ha : rl a) (hb : rl b) : JL a < JL b ↔ a < b := by rw [Int64.lt_iff_toInt_lt, JL_toInt ha, JL_toInt hb]
theorem JL_eq {a b : Int} (ha : rl a) (hb : rl b) : JL a = JL b ↔ a = b := ⟨fun h => by rw [← JL_toInt ha, ← JL_toInt hb, h], fun h => by rw [h]⟩
theorem J_0 : J 0 = 0 := rfl
theorem rg_0 : rg 0 := ⟨by decide, by decide⟩
theorem J_ne0 {b : Int} (hb : rg b) (h : b ≠ 0) : ¬ J b = 0 := fun e => h ((J_eq hb rg_0).mp e)
theorem JL_ne0 {b : Int} (hb : rl b) (h : b ≠ 0) : ¬ JL b = 0 := fun e => h ((JL_eq hb ⟨by decide, by decide⟩).mp (e.trans rfl))
theorem J_div {a b : Int} (ha : rg a) (hb : rg b) (h0 : 0 ≤ a) (h1 : 0 < b) : J a / J b = J (a / b) := by
  apply Int32.toInt.inj
  have hle : a / b ≤ a := Int.ediv_le_self b h0
  have hge : 0 ≤ a / b := Int.ediv_nonneg h0 (by omega)
  rw [Int32.toInt_div_of_ne_right, J_toInt ha, J_toInt hb, J_toInt ⟨by omega, by have := ha.2; omega⟩, Int.tdiv_eq_ediv_of_nonneg h0]
  intro e
  have : J b = J (-1) := e.trans rfl
  have := (J_eq hb ⟨by decide, by decide⟩).mp this
  omega
theorem J_rem {a b : Int} (ha : rg a) (hb : rg b) (h0 : 0 ≤ a) (h1 : 0 < b) : J a - J a / J b * J b = J (a % b) := by
  rw [J_div ha hb h0 h1, J_mul, J_sub]
  congr 1
  have := Int.mul_ediv_add_emod a b
  rw [Int.mul_comm] at this
  omega
theorem JL_div {a b : Int} (ha : rl a) (hb : rl b) (h0 : 0 ≤ a) (h1 : 0 < b) : JL a / JL b = JL (a / b) := by
  apply Int64.toInt.inj
  have hle : a / b ≤ a := Int.ediv_le_self b h0
  have hge : 0 ≤ a / b := Int.ediv_nonneg h0 (by omega)
  rw [Int64.toInt_div_of_ne_right, JL_toInt ha, JL_toInt hb, JL_toInt ⟨by omega, by have := ha.2; omega⟩, Int.tdiv_eq_ediv_of_nonneg h0]
  intro e
  have : JL b = JL (-1) := e.trans rfl
  have := (JL_eq hb ⟨by decide, by decide⟩).mp this
  omega
theorem JL_rem {a b : Int} (ha : rl a) (hb : rl b) (h0 : 0 ≤ a) (h1 : 0 < b) : JL a - JL a / JL b * JL b = JL (a % b) := by
  rw [JL_div ha hb h0 h1, JL_mul, JL_sub]
  congr 1
  have := Int.mul_ediv_add_emod a b
  rw [Int.mul_comm] at this
  omega
theorem J_l {a : Int} (ha : rg a) : (J a).toInt64 = JL a := by
  apply Int64.toInt.inj
  rw [Int32.toInt_toInt64, J_toInt ha, JL_toInt ⟨by have := ha.1; omega, by have := ha.2; omega⟩]
theorem JL_i (a : Int) : (JL a).toInt32 = J a := Int64.toInt32_ofInt
theorem J_nat (n : Nat) : J (n : Int) = nI n := Int32.ofInt_eq_ofNat
theorem J_nn {a : Int} (h : 0 ≤ a) : J a = nI a.toNat := by rw [← J_nat, Int.toNat_of_nonneg h]
theorem nI_bv (n : Nat) : (nI n).toBitVec = BitVec.ofNat 32 n := rfl
theorem J_and {a b : Int} (ha : 0 ≤ a) (hb : 0 ≤ b) : J a &&& J b = J (ia a b) := by
  rw [J_nn ha, J_nn hb, ia, J_nat]
  apply Int32.toBitVec.inj
  rw [Int32.toBitVec_and, nI_bv, nI_bv, nI_bv]
  apply BitVec.eq_of_getLsbD_eq
  intro i hi
  simp [BitVec.getLsbD_ofNat, hi]
theorem J_or {a b : Int} (ha : 0 ≤ a) (hb : 0 ≤ b) : J a ||| J b = J (io a b) := by
  rw [J_nn ha, J_nn hb, io, J_nat]
  apply Int32.toBitVec.inj
  rw [Int32.toBitVec_or, nI_bv, nI_bv, nI_bv]
  apply BitVec.eq_of_getLsbD_eq
  intro i hi
  simp [BitVec.getLsbD_ofNat, hi]
theorem J_xor {a b : Int} (ha : 0 ≤ a) (hb : 0 ≤ b) : J a ^^^ J b = J (ix a b) := by
  rw [J_nn ha, J_nn hb, ix, J_nat]
  apply Int32.toBitVec.inj
  rw [Int32.toBitVec_xor, nI_bv, nI_bv, nI_bv]
  apply BitVec.eq_of_getLsbD_eq
  intro i hi
  simp [BitVec.getLsbD_ofNat, hi]
theorem J_sh : ∀ k : Nat, k < 32 → ((nI k &&& 31).toBitVec.smod 32).toNat = k := by decide +kernel
theorem J_shl {a k : Int} (ha : 0 ≤ a) (hk : 0 ≤ k ∧ k < 32) : J a <<< (J k &&& 31) = J (a * 2 ^ k.toNat) := by
  have e1 : a * 2 ^ k.toNat = ((a.toNat * 2 ^ k.toNat : Nat) : Int) := by
    rw [Int.natCast_mul, Int.toNat_of_nonneg ha]; simp
  rw [e1, J_nat, J_nn hk.1, J_nn ha]
  apply Int32.toBitVec.inj
  apply BitVec.eq_of_toNat_eq
  rw [pk_shl _ _ k.toNat (J_sh _ (by omega)), nI_bv, nI_bv]
  simp [Nat.mod_mul_mod]
theorem J_shr {a k : Int} (ha : 0 ≤ a ∧ a < 2147483648) (hk : 0 ≤ k ∧ k < 32) : J a >>> (J k &&& 31) = J (a / 2 ^ k.toNat) := by
  have e1 : a / 2 ^ k.toNat = ((a.toNat / 2 ^ k.toNat : Nat) : Int) := by
    rw [Int.natCast_ediv, Int.toNat_of_nonneg ha.1]; simp
  rw [e1, J_nat, J_nn hk.1, J_nn ha.1]
  exact pk_shrN (by omega) _ _ (J_sh _ (by omega))
theorem lg_J {a b : Int} (ha : rl a) (hb : rl b) : lg_cmp (JL a) (JL b) = J (if b < a then 1 else if a = b then 0 else -1) := by
  unfold lg_cmp
  by_cases h1 : b < a
  · rw [if_pos ((JL_lt hb ha).mpr h1), if_pos h1]; rfl
  · by_cases h2 : a = b
    · subst h2; simp; rfl
    · rw [if_neg (fun h => h1 ((JL_lt hb ha).mp h)), if_neg (fun h => h2 ((JL_eq ha hb).mp h)), if_neg h1, if_neg h2]; rfl
theorem J_in {z : Int} {n : Nat} (h0 : 0 ≤ z) (h1 : z < n) (hn : n < 2147483648) : vp_in (J z) n := by
  rw [J_nn h0]; exact vp_in_nI (by omega) (by omega)
theorem J_cl {z : Int} (h0 : 0 ≤ z) (h1 : z < 2147483648) : (J z).toNatClampNeg = z.toNat := by
  rw [J_nn h0]; exact nI_clamp (by omega)
