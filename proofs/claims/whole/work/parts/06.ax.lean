section AWS
variable {G : GG} {d mc ms : Nat} {M : MM} {X : XX} {F : FF} {k n pc pc' i : Nat} {L : List (Option Value)} {st : List Value} {ws : va_W}
/-- what is on a stack behind a call -/
def psh : Option Value → List Value → List Value
  | none, r => r
  | some v, r => v :: r
theorem psh_eq (r : Option Value) (st : List Value) : r.toList ++ st = psh r st := by cases r <;> rfl

theorem x_iadd {a b : Int} (hi : M.2.2.2.2[i]? = some (pc, .iadd, 1)) (hp : pc + 1 = pc')
    (kk : AW G d mc ms M X F k n pc' L (.int (J (a + b)) :: st) ws) : AW G d mc ms M X F k n pc L (.int (J b) :: .int (J a) :: st) ws := by
  subst hp
  exact AW.one hi (fun p e R s m args below meth c H locs A ls hx hb hd hc hl h => lv_iadd hx hb hd (by rw [J_add]; exact h)) kk

theorem x_isub {a b : Int} (hi : M.2.2.2.2[i]? = some (pc, .isub, 1)) (hp : pc + 1 = pc')
    (kk : AW G d mc ms M X F k n pc' L (.int (J (a - b)) :: st) ws) : AW G d mc ms M X F k n pc L (.int (J b) :: .int (J a) :: st) ws := by
  subst hp
  exact AW.one hi (fun p e R s m args below meth c H locs A ls hx hb hd hc hl h => lv_isub hx hb hd (by rw [J_sub]; exact h)) kk

theorem x_imul {a b : Int} (hi : M.2.2.2.2[i]? = some (pc, .imul, 1)) (hp : pc + 1 = pc')
    (kk : AW G d mc ms M X F k n pc' L (.int (J (a * b)) :: st) ws) : AW G d mc ms M X F k n pc L (.int (J b) :: .int (J a) :: st) ws := by
  subst hp
  exact AW.one hi (fun p e R s m args below meth c H locs A ls hx hb hd hc hl h => lv_imul hx hb hd (by rw [J_mul]; exact h)) kk

theorem x_idiv {a b : Int} (hi : M.2.2.2.2[i]? = some (pc, .idiv, 1)) (hp : pc + 1 = pc') (ha : rg a) (hb0 : rg b) (h0 : 0 ≤ a) (h1 : 0 < b)
    (kk : AW G d mc ms M X F k n pc' L (.int (J (a / b)) :: st) ws) : AW G d mc ms M X F k n pc L (.int (J b) :: .int (J a) :: st) ws := by
  subst hp
  exact AW.one hi (fun p e R s m args below meth c H locs A ls hx hb hd hc hl h => lv_idiv hx hb hd (J_ne0 hb0 (by omega)) (by rw [J_div ha hb0 h0 h1]; exact h)) kk

theorem x_irem {a b : Int} (hi : M.2.2.2.2[i]? = some (pc, .irem, 1)) (hp : pc + 1 = pc') (ha : rg a) (hb0 : rg b) (h0 : 0 ≤ a) (h1 : 0 < b)
    (kk : AW G d mc ms M X F k n pc' L (.int (J (a % b)) :: st) ws) : AW G d mc ms M X F k n pc L (.int (J b) :: .int (J a) :: st) ws := by
  subst hp
  exact AW.one hi (fun p e R s m args below meth c H locs A ls hx hb hd hc hl h => lv_irem hx hb hd (J_ne0 hb0 (by omega)) (by rw [J_rem ha hb0 h0 h1]; exact h)) kk

theorem x_iand {a b : Int} (hi : M.2.2.2.2[i]? = some (pc, .iand, 1)) (hp : pc + 1 = pc') (ha : 0 ≤ a) (hb0 : 0 ≤ b)
    (kk : AW G d mc ms M X F k n pc' L (.int (J (ia a b)) :: st) ws) : AW G d mc ms M X F k n pc L (.int (J b) :: .int (J a) :: st) ws := by
  subst hp
  exact AW.one hi (fun p e R s m args below meth c H locs A ls hx hb hd hc hl h => lv_iand hx hb hd (by rw [J_and ha hb0]; exact h)) kk

theorem x_ior {a b : Int} (hi : M.2.2.2.2[i]? = some (pc, .ior, 1)) (hp : pc + 1 = pc') (ha : 0 ≤ a) (hb0 : 0 ≤ b)
    (kk : AW G d mc ms M X F k n pc' L (.int (J (io a b)) :: st) ws) : AW G d mc ms M X F k n pc L (.int (J b) :: .int (J a) :: st) ws := by
  subst hp
  exact AW.one hi (fun p e R s m args below meth c H locs A ls hx hb hd hc hl h => lv_ior hx hb hd (by rw [J_or ha hb0]; exact h)) kk

theorem x_ixor {a b : Int} (hi : M.2.2.2.2[i]? = some (pc, .ixor, 1)) (hp : pc + 1 = pc') (ha : 0 ≤ a) (hb0 : 0 ≤ b)
    (kk : AW G d mc ms M X F k n pc' L (.int (J (ix a b)) :: st) ws) : AW G d mc ms M X F k n pc L (.int (J b) :: .int (J a) :: st) ws := by
  subst hp
  exact AW.one hi (fun p e R s m args below meth c H locs A ls hx hb hd hc hl h => lv_ixor hx hb hd (by rw [J_xor ha hb0]; exact h)) kk

theorem x_ishl {a b : Int} (hi : M.2.2.2.2[i]? = some (pc, .ishl, 1)) (hp : pc + 1 = pc') (ha : 0 ≤ a) (hb0 : 0 ≤ b ∧ b < 32)
    (kk : AW G d mc ms M X F k n pc' L (.int (J (a * 2 ^ b.toNat)) :: st) ws) : AW G d mc ms M X F k n pc L (.int (J b) :: .int (J a) :: st) ws := by
  subst hp
  exact AW.one hi (fun p e R s m args below meth c H locs A ls hx hb hd hc hl h => lv_ishl hx hb hd (by rw [J_shl ha hb0]; exact h)) kk

theorem x_ishr {a b : Int} (hi : M.2.2.2.2[i]? = some (pc, .ishr, 1)) (hp : pc + 1 = pc') (ha : 0 ≤ a ∧ a < 2147483648) (hb0 : 0 ≤ b ∧ b < 32)
    (kk : AW G d mc ms M X F k n pc' L (.int (J (a / 2 ^ b.toNat)) :: st) ws) : AW G d mc ms M X F k n pc L (.int (J b) :: .int (J a) :: st) ws := by
  subst hp
  exact AW.one hi (fun p e R s m args below meth c H locs A ls hx hb hd hc hl h => lv_ishr hx hb hd (by rw [J_shr ha hb0]; exact h)) kk

theorem x_ladd {a b : Int} (hi : M.2.2.2.2[i]? = some (pc, .ladd, 1)) (hp : pc + 1 = pc')
    (kk : AW G d mc ms M X F k n pc' L (.long (JL (a + b)) :: st) ws) : AW G d mc ms M X F k n pc L (.long (JL b) :: .long (JL a) :: st) ws := by
  subst hp
  exact AW.one hi (fun p e R s m args below meth c H locs A ls hx hb hd hc hl h => lv_ladd hx hb hd (by rw [JL_add]; exact h)) kk

theorem x_lmul {a b : Int} (hi : M.2.2.2.2[i]? = some (pc, .lmul, 1)) (hp : pc + 1 = pc')
    (kk : AW G d mc ms M X F k n pc' L (.long (JL (a * b)) :: st) ws) : AW G d mc ms M X F k n pc L (.long (JL b) :: .long (JL a) :: st) ws := by
  subst hp
  exact AW.one hi (fun p e R s m args below meth c H locs A ls hx hb hd hc hl h => lv_lmul hx hb hd (by rw [JL_mul]; exact h)) kk

theorem x_ldiv {a b : Int} (hi : M.2.2.2.2[i]? = some (pc, .ldiv, 1)) (hp : pc + 1 = pc') (ha : rl a) (hb0 : rl b) (h0 : 0 ≤ a) (h1 : 0 < b)
    (kk : AW G d mc ms M X F k n pc' L (.long (JL (a / b)) :: st) ws) : AW G d mc ms M X F k n pc L (.long (JL b) :: .long (JL a) :: st) ws := by
  subst hp
  exact AW.one hi (fun p e R s m args below meth c H locs A ls hx hb hd hc hl h => lv_ldiv hx hb hd (JL_ne0 hb0 (by omega)) (by rw [JL_div ha hb0 h0 h1]; exact h)) kk

theorem x_lrem {a b : Int} (hi : M.2.2.2.2[i]? = some (pc, .lrem, 1)) (hp : pc + 1 = pc') (ha : rl a) (hb0 : rl b) (h0 : 0 ≤ a) (h1 : 0 < b)
    (kk : AW G d mc ms M X F k n pc' L (.long (JL (a % b)) :: st) ws) : AW G d mc ms M X F k n pc L (.long (JL b) :: .long (JL a) :: st) ws := by
  subst hp
  exact AW.one hi (fun p e R s m args below meth c H locs A ls hx hb hd hc hl h => lv_lrem hx hb hd (JL_ne0 hb0 (by omega)) (by rw [JL_rem ha hb0 h0 h1]; exact h)) kk

theorem x_lcmp {a b : Int} (hi : M.2.2.2.2[i]? = some (pc, .lcmp, 1)) (hp : pc + 1 = pc') (ha : rl a) (hb0 : rl b)
    (kk : AW G d mc ms M X F k n pc' L (.int (J (if b < a then 1 else if a = b then 0 else -1)) :: st) ws) : AW G d mc ms M X F k n pc L (.long (JL b) :: .long (JL a) :: st) ws := by
  subst hp
  exact AW.one hi (fun p e R s m args below meth c H locs A ls hx hb hd hc hl h => W.lcmp hx hb hd (by rw [lg_J ha hb0]; exact h)) kk

theorem x_i2l {a : Int} (hi : M.2.2.2.2[i]? = some (pc, .i2l, 1)) (hp : pc + 1 = pc') (ha : rg a)
    (kk : AW G d mc ms M X F k n pc' L (.long (JL a) :: st) ws) : AW G d mc ms M X F k n pc L (.int (J a) :: st) ws := by
  subst hp
  exact AW.one hi (fun p e R s m args below meth c H locs A ls hx hb hd hc hl h => lv_i2l hx hb hd (J_l ha) h) kk

theorem x_l2i {a : Int} (hi : M.2.2.2.2[i]? = some (pc, .l2i, 1)) (hp : pc + 1 = pc')
    (kk : AW G d mc ms M X F k n pc' L (.int (J a) :: st) ws) : AW G d mc ms M X F k n pc L (.long (JL a) :: st) ws := by
  subst hp
  exact AW.one hi (fun p e R s m args below meth c H locs A ls hx hb hd hc hl h => lv_l2i hx hb hd (JL_i a) h) kk

theorem x_iconst {a : Int} (hi : M.2.2.2.2[i]? = some (pc, .iconst a, 1)) (hp : pc + 1 = pc')
    (kk : AW G d mc ms M X F k n pc' L (.int (J a) :: st) ws) : AW G d mc ms M X F k n pc L (st) ws := by
  subst hp
  exact AW.one hi (fun p e R s m args below meth c H locs A ls hx hb hd hc hl h => lv_iconst hx hb hd rfl h) kk

theorem x_bipush {a : Int} (hi : M.2.2.2.2[i]? = some (pc, .bipush a, 2)) (hp : pc + 2 = pc') (hv : (Int8.ofInt a).toInt32 = J a)
    (kk : AW G d mc ms M X F k n pc' L (.int (J a) :: st) ws) : AW G d mc ms M X F k n pc L (st) ws := by
  subst hp
  exact AW.one hi (fun p e R s m args below meth c H locs A ls hx hb hd hc hl h => lv_bipush hx hb hd hv h) kk

theorem x_sipush {a : Int} (hi : M.2.2.2.2[i]? = some (pc, .sipush a, 3)) (hp : pc + 3 = pc') (hv : (Int16.ofInt a).toInt32 = J a)
    (kk : AW G d mc ms M X F k n pc' L (.int (J a) :: st) ws) : AW G d mc ms M X F k n pc L (st) ws := by
  subst hp
  exact AW.one hi (fun p e R s m args below meth c H locs A ls hx hb hd hc hl h => lv_sipush hx hb hd hv h) kk

theorem x_lconst {f : Fin 2} {a : Int} (hi : M.2.2.2.2[i]? = some (pc, .lconst f, 1)) (hp : pc + 1 = pc') (hv : Int64.ofNat (f : Nat) = JL a)
    (kk : AW G d mc ms M X F k n pc' L (.long (JL a) :: st) ws) : AW G d mc ms M X F k n pc L (st) ws := by
  subst hp
  exact AW.one hi (fun p e R s m args below meth c H locs A ls hx hb hd hc hl h => lv_lconst hx hb hd hv h) kk

theorem x_ldc {idx : Nat} {a : Int} (hi : M.2.2.2.2[i]? = some (pc, .ldc idx, 2)) (hp : pc + 2 = pc') (hw : Cond.constant M.1.cls idx (J a) ∈ lw_tbl)
    (kk : AW G d mc ms M X F k n pc' L (.int (J a) :: st) ws) : AW G d mc ms M X F k n pc L (st) ws := by
  subst hp
  exact AW.one hi (fun p e R s m args below meth c H locs A ls hx hb hd hc hl h => lv_ldc hx hb hc.1.2.2.2.2 (hc.2.1.2.2.1.use hw rfl rfl) hd h) kk

theorem x_ldc2 {idx : Nat} {a : Int} (hi : M.2.2.2.2[i]? = some (pc, .ldc2_w idx, 3)) (hp : pc + 3 = pc') (hw : Cond.constantLong M.1.cls idx (JL a) ∈ lw_tbl)
    (kk : AW G d mc ms M X F k n pc' L (.long (JL a) :: st) ws) : AW G d mc ms M X F k n pc L (st) ws := by
  subst hp
  exact AW.one hi (fun p e R s m args below meth c H locs A ls hx hb hd hc hl h => lv_ldc2 hx hb hc.1.2.2.2.2 (hc.2.1.2.2.1.use hw rfl rfl) hd h) kk

theorem x_dup {v : Value} (hi : M.2.2.2.2[i]? = some (pc, .dup, 1)) (hp : pc + 1 = pc') (hv : v.category = 1)
    (kk : AW G d mc ms M X F k n pc' L (v :: v :: st) ws) : AW G d mc ms M X F k n pc L (v :: st) ws := by
  subst hp
  exact AW.one hi (fun p e R s m args below meth c H locs A ls hx hb hd hc hl h => lv_dup hx hb hd hv h) kk

theorem x_dup2 {v u : Value} (hi : M.2.2.2.2[i]? = some (pc, .dup2, 1)) (hp : pc + 1 = pc') (hv : v.category = 1) (hu : u.category = 1)
    (kk : AW G d mc ms M X F k n pc' L (v :: u :: v :: u :: st) ws) : AW G d mc ms M X F k n pc L (v :: u :: st) ws := by
  subst hp
  exact AW.one hi (fun p e R s m args below meth c H locs A ls hx hb hd hc hl h => lv_dup2_11 hx hb hd hv hu h) kk

theorem x_pop {v : Value} (hi : M.2.2.2.2[i]? = some (pc, .pop, 1)) (hp : pc + 1 = pc') (hv : v.category = 1)
    (kk : AW G d mc ms M X F k n pc' L (st) ws) : AW G d mc ms M X F k n pc L (v :: st) ws := by
  subst hp
  exact AW.one hi (fun p e R s m args below meth c H locs A ls hx hb hd hc hl h => lv_pop hx hb hd hv h) kk

theorem x_iload_n {f : Fin 4} {j : Nat} {x : Int32} (hi : M.2.2.2.2[i]? = some (pc, .iload_n f, 1)) (hp : pc + 1 = pc') (hj : (f : Nat) = j) (hl0 : L[j]? = some (some (.int x)))
    (kk : AW G d mc ms M X F k n pc' L (.int x :: st) ws) : AW G d mc ms M X F k n pc L (st) ws := by
  subst hp
  exact AW.one hi (fun p e R s m args below meth c H locs A ls hx hb hd hc hl h => lv_iload_n hx hb hd hj (hl.at hl0) h) kk

theorem x_iload {j : Nat} {x : Int32} (hi : M.2.2.2.2[i]? = some (pc, .iload j, 2)) (hp : pc + 2 = pc') (hl0 : L[j]? = some (some (.int x)))
    (kk : AW G d mc ms M X F k n pc' L (.int x :: st) ws) : AW G d mc ms M X F k n pc L (st) ws := by
  subst hp
  exact AW.one hi (fun p e R s m args below meth c H locs A ls hx hb hd hc hl h => lv_iload hx hb hd (hl.at hl0) h) kk

theorem x_lload_n {f : Fin 4} {j : Nat} {x : Int64} (hi : M.2.2.2.2[i]? = some (pc, .lload_n f, 1)) (hp : pc + 1 = pc') (hj : (f : Nat) = j) (hl0 : L[j]? = some (some (.long x)))
    (kk : AW G d mc ms M X F k n pc' L (.long x :: st) ws) : AW G d mc ms M X F k n pc L (st) ws := by
  subst hp
  exact AW.one hi (fun p e R s m args below meth c H locs A ls hx hb hd hc hl h => lv_lload_n hx hb hd hj (hl.at hl0) h) kk

theorem x_lload {j : Nat} {x : Int64} (hi : M.2.2.2.2[i]? = some (pc, .lload j, 2)) (hp : pc + 2 = pc') (hl0 : L[j]? = some (some (.long x)))
    (kk : AW G d mc ms M X F k n pc' L (.long x :: st) ws) : AW G d mc ms M X F k n pc L (st) ws := by
  subst hp
  exact AW.one hi (fun p e R s m args below meth c H locs A ls hx hb hd hc hl h => lv_lload hx hb hd (hl.at hl0) h) kk

theorem x_aload_n {f : Fin 4} {j : Nat} {x : Nat} (hi : M.2.2.2.2[i]? = some (pc, .aload_n f, 1)) (hp : pc + 1 = pc') (hj : (f : Nat) = j) (hl0 : L[j]? = some (some (.ref x)))
    (kk : AW G d mc ms M X F k n pc' L (.ref x :: st) ws) : AW G d mc ms M X F k n pc L (st) ws := by
  subst hp
  exact AW.one hi (fun p e R s m args below meth c H locs A ls hx hb hd hc hl h => lv_aload_n hx hb hd hj (hl.at hl0) h) kk

theorem x_aload {j : Nat} {x : Nat} (hi : M.2.2.2.2[i]? = some (pc, .aload j, 2)) (hp : pc + 2 = pc') (hl0 : L[j]? = some (some (.ref x)))
    (kk : AW G d mc ms M X F k n pc' L (.ref x :: st) ws) : AW G d mc ms M X F k n pc L (st) ws := by
  subst hp
  exact AW.one hi (fun p e R s m args below meth c H locs A ls hx hb hd hc hl h => lv_aload hx hb hd (hl.at hl0) h) kk

theorem x_ineg {a : Int} (hi : M.2.2.2.2[i]? = some (pc, .ineg, 1)) (hp : pc + 1 = pc')
    (kk : AW G d mc ms M X F k n pc' L (.int (J (-a)) :: st) ws) : AW G d mc ms M X F k n pc L (.int (J a) :: st) ws := by
  subst hp
  exact AW.one hi (fun p e R s m args below meth c H locs A ls hx hb hd hc hl h => lv_ineg hx hb hd (by rw [J_neg]; exact h)) kk

theorem x_riadd {x y : Int32} (hi : M.2.2.2.2[i]? = some (pc, .iadd, 1)) (hp : pc + 1 = pc')
    (kk : AW G d mc ms M X F k n pc' L (.int (x + y) :: st) ws) : AW G d mc ms M X F k n pc L (.int y :: .int x :: st) ws := by
  subst hp
  exact AW.one hi (fun p e R s m args below meth c H locs A ls hx hb hd hc hl h => lv_iadd hx hb hd h) kk

theorem x_risub {x y : Int32} (hi : M.2.2.2.2[i]? = some (pc, .isub, 1)) (hp : pc + 1 = pc')
    (kk : AW G d mc ms M X F k n pc' L (.int (x - y) :: st) ws) : AW G d mc ms M X F k n pc L (.int y :: .int x :: st) ws := by
  subst hp
  exact AW.one hi (fun p e R s m args below meth c H locs A ls hx hb hd hc hl h => lv_isub hx hb hd h) kk

theorem x_riand {x y : Int32} (hi : M.2.2.2.2[i]? = some (pc, .iand, 1)) (hp : pc + 1 = pc')
    (kk : AW G d mc ms M X F k n pc' L (.int (x &&& y) :: st) ws) : AW G d mc ms M X F k n pc L (.int y :: .int x :: st) ws := by
  subst hp
  exact AW.one hi (fun p e R s m args below meth c H locs A ls hx hb hd hc hl h => lv_iand hx hb hd h) kk

theorem x_riushr {x y : Int32} (hi : M.2.2.2.2[i]? = some (pc, .iushr, 1)) (hp : pc + 1 = pc')
    (kk : AW G d mc ms M X F k n pc' L (.int ((x.toUInt32 >>> (y.toUInt32 &&& Int32.toUInt32 31)).toInt32) :: st) ws) : AW G d mc ms M X F k n pc L (.int y :: .int x :: st) ws := by
  subst hp
  exact AW.one hi (fun p e R s m args below meth c H locs A ls hx hb hd hc hl h => lv_iushr hx hb hd rfl h) kk

theorem x_ldcw {idx : Nat} {x : Int32} (hi : M.2.2.2.2[i]? = some (pc, .ldc_w idx, 3)) (hp : pc + 3 = pc') (hw : Cond.constant M.1.cls idx x ∈ lw_tbl)
    (kk : AW G d mc ms M X F k n pc' L (.int x :: st) ws) : AW G d mc ms M X F k n pc L (st) ws := by
  subst hp
  exact AW.one hi (fun p e R s m args below meth c H locs A ls hx hb hd hc hl h => lv_ldcw hx hb hc.1.2.2.2.2 (hc.2.1.2.2.1.use hw rfl rfl) hd h) kk

theorem x_goto {off : Int} (hi : M.2.2.2.2[i]? = some (pc, .goto off, 3)) (hp : (pc : Int) + off = (pc' : Int)) (kk : AW G d mc ms M X F k n pc' L st ws) : AW G d mc ms M X F k n pc L st ws :=
  AW.one hi (fun p e R s m args below meth c H locs A ls hx hb hd hc hl h => lv_goto hx hb hd hp h) kk

theorem x_icmpeq {a b off : Int} {tgt : Nat} (hi : M.2.2.2.2[i]? = some (pc, .if_icmp .eq off, 3)) (hp : pc + 3 = pc') (ht : (pc : Int) + off = (tgt : Int)) (ha : rg a) (hb0 : rg b)
    (kt : a = b → AW G d mc ms M X F k n tgt L st ws) (kf : ¬ a = b → AW G d mc ms M X F k n pc' L st ws) : AW G d mc ms M X F k n pc L (.int (J b) :: .int (J a) :: st) ws := by
  subst hp
  intro p e R s m args below meth c H locs A ls hc hP hD hS hl
  refine lv_icmp_eq hc.1.1 hc.1.2.1 (hc.dec hi) ht (fun h => kt ?_ p e R s m args below meth c H locs A ls hc hP hD hS hl) (fun h => kf ?_ p e R s m args below meth c H locs A ls hc hP hD hS hl)
  · simp only [J_eq ha hb0, J_lt ha hb0, J_lt hb0 ha, J_le ha hb0, J_le hb0 ha, ge_iff_le, gt_iff_lt, ne_eq, Int.not_lt, Int.not_le] at h ⊢; omega
  · simp only [J_eq ha hb0, J_lt ha hb0, J_lt hb0 ha, J_le ha hb0, J_le hb0 ha, ge_iff_le, gt_iff_lt, ne_eq, Int.not_lt, Int.not_le] at h ⊢; omega

theorem x_ifeq {a off : Int} {tgt : Nat} (hi : M.2.2.2.2[i]? = some (pc, .ifCond .eq off, 3)) (hp : pc + 3 = pc') (ht : (pc : Int) + off = (tgt : Int)) (ha : rg a)
    (kt : a = 0 → AW G d mc ms M X F k n tgt L st ws) (kf : ¬ a = 0 → AW G d mc ms M X F k n pc' L st ws) : AW G d mc ms M X F k n pc L (.int (J a) :: st) ws := by
  subst hp
  have hb0 := rg_0
  intro p e R s m args below meth c H locs A ls hc hP hD hS hl
  refine lv_if_eq hc.1.1 hc.1.2.1 (hc.dec hi) ht (fun h => kt ?_ p e R s m args below meth c H locs A ls hc hP hD hS hl) (fun h => kf ?_ p e R s m args below meth c H locs A ls hc hP hD hS hl)
  · simp only [← J_0, J_eq ha hb0, J_lt ha hb0, J_lt hb0 ha, J_le ha hb0, J_le hb0 ha, ge_iff_le, gt_iff_lt, ne_eq, Int.not_lt, Int.not_le] at h ⊢; omega
  · simp only [← J_0, J_eq ha hb0, J_lt ha hb0, J_lt hb0 ha, J_le ha hb0, J_le hb0 ha, ge_iff_le, gt_iff_lt, ne_eq, Int.not_lt, Int.not_le] at h ⊢; omega

theorem x_icmpne {a b off : Int} {tgt : Nat} (hi : M.2.2.2.2[i]? = some (pc, .if_icmp .ne off, 3)) (hp : pc + 3 = pc') (ht : (pc : Int) + off = (tgt : Int)) (ha : rg a) (hb0 : rg b)
    (kt : ¬ a = b → AW G d mc ms M X F k n tgt L st ws) (kf : a = b → AW G d mc ms M X F k n pc' L st ws) : AW G d mc ms M X F k n pc L (.int (J b) :: .int (J a) :: st) ws := by
  subst hp
  intro p e R s m args below meth c H locs A ls hc hP hD hS hl
  refine lv_icmp_ne hc.1.1 hc.1.2.1 (hc.dec hi) ht (fun h => kt ?_ p e R s m args below meth c H locs A ls hc hP hD hS hl) (fun h => kf ?_ p e R s m args below meth c H locs A ls hc hP hD hS hl)
  · simp only [J_eq ha hb0, J_lt ha hb0, J_lt hb0 ha, J_le ha hb0, J_le hb0 ha, ge_iff_le, gt_iff_lt, ne_eq, Int.not_lt, Int.not_le] at h ⊢; omega
  · simp only [J_eq ha hb0, J_lt ha hb0, J_lt hb0 ha, J_le ha hb0, J_le hb0 ha, ge_iff_le, gt_iff_lt, ne_eq, Int.not_lt, Int.not_le] at h ⊢; omega

theorem x_ifne {a off : Int} {tgt : Nat} (hi : M.2.2.2.2[i]? = some (pc, .ifCond .ne off, 3)) (hp : pc + 3 = pc') (ht : (pc : Int) + off = (tgt : Int)) (ha : rg a)
    (kt : ¬ a = 0 → AW G d mc ms M X F k n tgt L st ws) (kf : a = 0 → AW G d mc ms M X F k n pc' L st ws) : AW G d mc ms M X F k n pc L (.int (J a) :: st) ws := by
  subst hp
  have hb0 := rg_0
  intro p e R s m args below meth c H locs A ls hc hP hD hS hl
  refine lv_if_ne hc.1.1 hc.1.2.1 (hc.dec hi) ht (fun h => kt ?_ p e R s m args below meth c H locs A ls hc hP hD hS hl) (fun h => kf ?_ p e R s m args below meth c H locs A ls hc hP hD hS hl)
  · simp only [← J_0, J_eq ha hb0, J_lt ha hb0, J_lt hb0 ha, J_le ha hb0, J_le hb0 ha, ge_iff_le, gt_iff_lt, ne_eq, Int.not_lt, Int.not_le] at h ⊢; omega
  · simp only [← J_0, J_eq ha hb0, J_lt ha hb0, J_lt hb0 ha, J_le ha hb0, J_le hb0 ha, ge_iff_le, gt_iff_lt, ne_eq, Int.not_lt, Int.not_le] at h ⊢; omega

theorem x_icmplt {a b off : Int} {tgt : Nat} (hi : M.2.2.2.2[i]? = some (pc, .if_icmp .lt off, 3)) (hp : pc + 3 = pc') (ht : (pc : Int) + off = (tgt : Int)) (ha : rg a) (hb0 : rg b)
    (kt : a < b → AW G d mc ms M X F k n tgt L st ws) (kf : b ≤ a → AW G d mc ms M X F k n pc' L st ws) : AW G d mc ms M X F k n pc L (.int (J b) :: .int (J a) :: st) ws := by
  subst hp
  intro p e R s m args below meth c H locs A ls hc hP hD hS hl
  refine lv_icmp_lt hc.1.1 hc.1.2.1 (hc.dec hi) ht (fun h => kt ?_ p e R s m args below meth c H locs A ls hc hP hD hS hl) (fun h => kf ?_ p e R s m args below meth c H locs A ls hc hP hD hS hl)
  · simp only [J_eq ha hb0, J_lt ha hb0, J_lt hb0 ha, J_le ha hb0, J_le hb0 ha, ge_iff_le, gt_iff_lt, ne_eq, Int.not_lt, Int.not_le] at h ⊢; omega
  · simp only [J_eq ha hb0, J_lt ha hb0, J_lt hb0 ha, J_le ha hb0, J_le hb0 ha, ge_iff_le, gt_iff_lt, ne_eq, Int.not_lt, Int.not_le] at h ⊢; omega

theorem x_iflt {a off : Int} {tgt : Nat} (hi : M.2.2.2.2[i]? = some (pc, .ifCond .lt off, 3)) (hp : pc + 3 = pc') (ht : (pc : Int) + off = (tgt : Int)) (ha : rg a)
    (kt : a < 0 → AW G d mc ms M X F k n tgt L st ws) (kf : 0 ≤ a → AW G d mc ms M X F k n pc' L st ws) : AW G d mc ms M X F k n pc L (.int (J a) :: st) ws := by
  subst hp
  have hb0 := rg_0
  intro p e R s m args below meth c H locs A ls hc hP hD hS hl
  refine lv_if_lt hc.1.1 hc.1.2.1 (hc.dec hi) ht (fun h => kt ?_ p e R s m args below meth c H locs A ls hc hP hD hS hl) (fun h => kf ?_ p e R s m args below meth c H locs A ls hc hP hD hS hl)
  · simp only [← J_0, J_eq ha hb0, J_lt ha hb0, J_lt hb0 ha, J_le ha hb0, J_le hb0 ha, ge_iff_le, gt_iff_lt, ne_eq, Int.not_lt, Int.not_le] at h ⊢; omega
  · simp only [← J_0, J_eq ha hb0, J_lt ha hb0, J_lt hb0 ha, J_le ha hb0, J_le hb0 ha, ge_iff_le, gt_iff_lt, ne_eq, Int.not_lt, Int.not_le] at h ⊢; omega

theorem x_icmpge {a b off : Int} {tgt : Nat} (hi : M.2.2.2.2[i]? = some (pc, .if_icmp .ge off, 3)) (hp : pc + 3 = pc') (ht : (pc : Int) + off = (tgt : Int)) (ha : rg a) (hb0 : rg b)
    (kt : b ≤ a → AW G d mc ms M X F k n tgt L st ws) (kf : a < b → AW G d mc ms M X F k n pc' L st ws) : AW G d mc ms M X F k n pc L (.int (J b) :: .int (J a) :: st) ws := by
  subst hp
  intro p e R s m args below meth c H locs A ls hc hP hD hS hl
  refine lv_icmp_ge hc.1.1 hc.1.2.1 (hc.dec hi) ht (fun h => kt ?_ p e R s m args below meth c H locs A ls hc hP hD hS hl) (fun h => kf ?_ p e R s m args below meth c H locs A ls hc hP hD hS hl)
  · simp only [J_eq ha hb0, J_lt ha hb0, J_lt hb0 ha, J_le ha hb0, J_le hb0 ha, ge_iff_le, gt_iff_lt, ne_eq, Int.not_lt, Int.not_le] at h ⊢; omega
  · simp only [J_eq ha hb0, J_lt ha hb0, J_lt hb0 ha, J_le ha hb0, J_le hb0 ha, ge_iff_le, gt_iff_lt, ne_eq, Int.not_lt, Int.not_le] at h ⊢; omega

theorem x_ifge {a off : Int} {tgt : Nat} (hi : M.2.2.2.2[i]? = some (pc, .ifCond .ge off, 3)) (hp : pc + 3 = pc') (ht : (pc : Int) + off = (tgt : Int)) (ha : rg a)
    (kt : 0 ≤ a → AW G d mc ms M X F k n tgt L st ws) (kf : a < 0 → AW G d mc ms M X F k n pc' L st ws) : AW G d mc ms M X F k n pc L (.int (J a) :: st) ws := by
  subst hp
  have hb0 := rg_0
  intro p e R s m args below meth c H locs A ls hc hP hD hS hl
  refine lv_if_ge hc.1.1 hc.1.2.1 (hc.dec hi) ht (fun h => kt ?_ p e R s m args below meth c H locs A ls hc hP hD hS hl) (fun h => kf ?_ p e R s m args below meth c H locs A ls hc hP hD hS hl)
  · simp only [← J_0, J_eq ha hb0, J_lt ha hb0, J_lt hb0 ha, J_le ha hb0, J_le hb0 ha, ge_iff_le, gt_iff_lt, ne_eq, Int.not_lt, Int.not_le] at h ⊢; omega
  · simp only [← J_0, J_eq ha hb0, J_lt ha hb0, J_lt hb0 ha, J_le ha hb0, J_le hb0 ha, ge_iff_le, gt_iff_lt, ne_eq, Int.not_lt, Int.not_le] at h ⊢; omega

theorem x_icmpgt {a b off : Int} {tgt : Nat} (hi : M.2.2.2.2[i]? = some (pc, .if_icmp .gt off, 3)) (hp : pc + 3 = pc') (ht : (pc : Int) + off = (tgt : Int)) (ha : rg a) (hb0 : rg b)
    (kt : b < a → AW G d mc ms M X F k n tgt L st ws) (kf : a ≤ b → AW G d mc ms M X F k n pc' L st ws) : AW G d mc ms M X F k n pc L (.int (J b) :: .int (J a) :: st) ws := by
  subst hp
  intro p e R s m args below meth c H locs A ls hc hP hD hS hl
  refine lv_icmp_gt hc.1.1 hc.1.2.1 (hc.dec hi) ht (fun h => kt ?_ p e R s m args below meth c H locs A ls hc hP hD hS hl) (fun h => kf ?_ p e R s m args below meth c H locs A ls hc hP hD hS hl)
  · simp only [J_eq ha hb0, J_lt ha hb0, J_lt hb0 ha, J_le ha hb0, J_le hb0 ha, ge_iff_le, gt_iff_lt, ne_eq, Int.not_lt, Int.not_le] at h ⊢; omega
  · simp only [J_eq ha hb0, J_lt ha hb0, J_lt hb0 ha, J_le ha hb0, J_le hb0 ha, ge_iff_le, gt_iff_lt, ne_eq, Int.not_lt, Int.not_le] at h ⊢; omega

theorem x_ifgt {a off : Int} {tgt : Nat} (hi : M.2.2.2.2[i]? = some (pc, .ifCond .gt off, 3)) (hp : pc + 3 = pc') (ht : (pc : Int) + off = (tgt : Int)) (ha : rg a)
    (kt : 0 < a → AW G d mc ms M X F k n tgt L st ws) (kf : a ≤ 0 → AW G d mc ms M X F k n pc' L st ws) : AW G d mc ms M X F k n pc L (.int (J a) :: st) ws := by
  subst hp
  have hb0 := rg_0
  intro p e R s m args below meth c H locs A ls hc hP hD hS hl
  refine lv_if_gt hc.1.1 hc.1.2.1 (hc.dec hi) ht (fun h => kt ?_ p e R s m args below meth c H locs A ls hc hP hD hS hl) (fun h => kf ?_ p e R s m args below meth c H locs A ls hc hP hD hS hl)
  · simp only [← J_0, J_eq ha hb0, J_lt ha hb0, J_lt hb0 ha, J_le ha hb0, J_le hb0 ha, ge_iff_le, gt_iff_lt, ne_eq, Int.not_lt, Int.not_le] at h ⊢; omega
  · simp only [← J_0, J_eq ha hb0, J_lt ha hb0, J_lt hb0 ha, J_le ha hb0, J_le hb0 ha, ge_iff_le, gt_iff_lt, ne_eq, Int.not_lt, Int.not_le] at h ⊢; omega

theorem x_icmple {a b off : Int} {tgt : Nat} (hi : M.2.2.2.2[i]? = some (pc, .if_icmp .le off, 3)) (hp : pc + 3 = pc') (ht : (pc : Int) + off = (tgt : Int)) (ha : rg a) (hb0 : rg b)
    (kt : a ≤ b → AW G d mc ms M X F k n tgt L st ws) (kf : b < a → AW G d mc ms M X F k n pc' L st ws) : AW G d mc ms M X F k n pc L (.int (J b) :: .int (J a) :: st) ws := by
  subst hp
  intro p e R s m args below meth c H locs A ls hc hP hD hS hl
  refine lv_icmp_le hc.1.1 hc.1.2.1 (hc.dec hi) ht (fun h => kt ?_ p e R s m args below meth c H locs A ls hc hP hD hS hl) (fun h => kf ?_ p e R s m args below meth c H locs A ls hc hP hD hS hl)
  · simp only [J_eq ha hb0, J_lt ha hb0, J_lt hb0 ha, J_le ha hb0, J_le hb0 ha, ge_iff_le, gt_iff_lt, ne_eq, Int.not_lt, Int.not_le] at h ⊢; omega
  · simp only [J_eq ha hb0, J_lt ha hb0, J_lt hb0 ha, J_le ha hb0, J_le hb0 ha, ge_iff_le, gt_iff_lt, ne_eq, Int.not_lt, Int.not_le] at h ⊢; omega

theorem x_ifle {a off : Int} {tgt : Nat} (hi : M.2.2.2.2[i]? = some (pc, .ifCond .le off, 3)) (hp : pc + 3 = pc') (ht : (pc : Int) + off = (tgt : Int)) (ha : rg a)
    (kt : a ≤ 0 → AW G d mc ms M X F k n tgt L st ws) (kf : 0 < a → AW G d mc ms M X F k n pc' L st ws) : AW G d mc ms M X F k n pc L (.int (J a) :: st) ws := by
  subst hp
  have hb0 := rg_0
  intro p e R s m args below meth c H locs A ls hc hP hD hS hl
  refine lv_if_le hc.1.1 hc.1.2.1 (hc.dec hi) ht (fun h => kt ?_ p e R s m args below meth c H locs A ls hc hP hD hS hl) (fun h => kf ?_ p e R s m args below meth c H locs A ls hc hP hD hS hl)
  · simp only [← J_0, J_eq ha hb0, J_lt ha hb0, J_lt hb0 ha, J_le ha hb0, J_le hb0 ha, ge_iff_le, gt_iff_lt, ne_eq, Int.not_lt, Int.not_le] at h ⊢; omega
  · simp only [← J_0, J_eq ha hb0, J_lt ha hb0, J_lt hb0 ha, J_le ha hb0, J_le hb0 ha, ge_iff_le, gt_iff_lt, ne_eq, Int.not_lt, Int.not_le] at h ⊢; omega

theorem x_istore_n {j : Nat} {f : Fin 4} {x : Int32} {L' : List (Option Value)} (hi : M.2.2.2.2[i]? = some (pc, .istore_n f, 1)) (hp : pc + 1 = pc') (hj : (f : Nat) = j) (hc0 : catok L j = true) (hn : j < M.2.2.1) (hL : L.set j (some (.int x)) = L')
    (kk : AW G d mc ms M X F k n pc' L' st ws) : AW G d mc ms M X F k n pc L (.int x :: st) ws := by
  subst hp
  subst hL
  intro p e R s m args below meth c H locs A ls hc hP hD hS hl
  exact lv_istore_n hc.1.1 hc.1.2.1 (hc.dec hi) hj hl hn rfl (fun ls' hl' => kk p e R s m args below meth c H locs A ls' hc hP hD hS (lvh.of hl' (lvl_store1 hc0)))

theorem x_istore {j : Nat} {x : Int32} {L' : List (Option Value)} (hi : M.2.2.2.2[i]? = some (pc, .istore j, 2)) (hp : pc + 2 = pc') (hc0 : catok L j = true) (hn : j < M.2.2.1) (hL : L.set j (some (.int x)) = L')
    (kk : AW G d mc ms M X F k n pc' L' st ws) : AW G d mc ms M X F k n pc L (.int x :: st) ws := by
  subst hp
  subst hL
  intro p e R s m args below meth c H locs A ls hc hP hD hS hl
  exact lv_istore hc.1.1 hc.1.2.1 (hc.dec hi) hl hn rfl (fun ls' hl' => kk p e R s m args below meth c H locs A ls' hc hP hD hS (lvh.of hl' (lvl_store1 hc0)))

theorem x_lstore_n {j : Nat} {f : Fin 4} {x : Int64} {L' : List (Option Value)} (hi : M.2.2.2.2[i]? = some (pc, .lstore_n f, 1)) (hp : pc + 1 = pc') (hj : (f : Nat) = j) (hc0 : catok L j = true) (hn : j + 1 < M.2.2.1) (hL : (L.set j (some (.long x))).set (j + 1) none = L')
    (kk : AW G d mc ms M X F k n pc' L' st ws) : AW G d mc ms M X F k n pc L (.long x :: st) ws := by
  subst hp
  subst hL
  intro p e R s m args below meth c H locs A ls hc hP hD hS hl
  exact lv_lstore_n hc.1.1 hc.1.2.1 (hc.dec hi) hj hl hn rfl (fun ls' hl' => kk p e R s m args below meth c H locs A ls' hc hP hD hS (lvh.of hl' (lvl_store2 hc0)))

theorem x_lstore {j : Nat} {x : Int64} {L' : List (Option Value)} (hi : M.2.2.2.2[i]? = some (pc, .lstore j, 2)) (hp : pc + 2 = pc') (hc0 : catok L j = true) (hn : j + 1 < M.2.2.1) (hL : (L.set j (some (.long x))).set (j + 1) none = L')
    (kk : AW G d mc ms M X F k n pc' L' st ws) : AW G d mc ms M X F k n pc L (.long x :: st) ws := by
  subst hp
  subst hL
  intro p e R s m args below meth c H locs A ls hc hP hD hS hl
  exact lv_lstore hc.1.1 hc.1.2.1 (hc.dec hi) hl hn rfl (fun ls' hl' => kk p e R s m args below meth c H locs A ls' hc hP hD hS (lvh.of hl' (lvl_store2 hc0)))

theorem x_astore_n {j : Nat} {f : Fin 4} {x : Nat} {L' : List (Option Value)} (hi : M.2.2.2.2[i]? = some (pc, .astore_n f, 1)) (hp : pc + 1 = pc') (hj : (f : Nat) = j) (hc0 : catok L j = true) (hn : j < M.2.2.1) (hL : L.set j (some (.ref x)) = L')
    (kk : AW G d mc ms M X F k n pc' L' st ws) : AW G d mc ms M X F k n pc L (.ref x :: st) ws := by
  subst hp
  subst hL
  intro p e R s m args below meth c H locs A ls hc hP hD hS hl
  exact lv_astore_n hc.1.1 hc.1.2.1 (hc.dec hi) hj hl hn rfl (fun ls' hl' => kk p e R s m args below meth c H locs A ls' hc hP hD hS (lvh.of hl' (lvl_store1 hc0)))

theorem x_iinc {j : Nat} {a b : Int} {L' : List (Option Value)} (hi : M.2.2.2.2[i]? = some (pc, .iinc j b, 3)) (hp : pc + 3 = pc') (hl0 : L[j]? = some (some (.int (J a)))) (hc0 : catok L j = true) (hn : j < M.2.2.1) (hL : L.set j (some (.int (J (a + b)))) = L')
    (kk : AW G d mc ms M X F k n pc' L' st ws) : AW G d mc ms M X F k n pc L st ws := by
  subst hp
  subst hL
  intro p e R s m args below meth c H locs A ls hc hP hD hS hl
  obtain ⟨q, hq⟩ := List.getElem?_of_mem ((lvl_mem L 0 (j, .int (J a))).mpr ⟨j, by simp, hl0⟩)
  exact lv_iinc hc.1.1 hc.1.2.1 (hc.dec hi) hl hq (J_add a b) hn rfl (fun ls' hl' => kk p e R s m args below meth c H locs A ls' hc hP hD hS (lvh.of hl' (lvl_store1 hc0)))

theorem x_tableIn {dflt lo hi2 off z v : Int} {offs : Array Int} {len tgt : Nat} (hi : M.2.2.2.2[i]? = some (pc, .tableswitch dflt lo hi2 offs, len)) (hz : z = v) (hv : rg v) (h1 : ¬ v < lo) (h2 : ¬ hi2 < v) (ho : offs[(v - lo).toNat]? = some off) (ht : (pc : Int) + off = (tgt : Int))
    (kk : AW G d mc ms M X F k n tgt L st ws) : AW G d mc ms M X F k n pc L (.int (J z) :: st) ws := by
  subst hz
  exact AW.one hi (fun p e R s m args below meth c H locs A ls hx hb hd hc hl h => lv_tableIn hx hb hd (by rw [J_toInt hv]; exact h1) (by rw [J_toInt hv]; exact h2) (by rw [J_toInt hv]; exact ho) ht h) kk
theorem x_tableOut {dflt lo hi2 z : Int} {offs : Array Int} {len tgt : Nat} (hi : M.2.2.2.2[i]? = some (pc, .tableswitch dflt lo hi2 offs, len)) (hv : rg z) (h : z < lo ∨ hi2 < z) (ht : (pc : Int) + dflt = (tgt : Int))
    (kk : AW G d mc ms M X F k n tgt L st ws) : AW G d mc ms M X F k n pc L (.int (J z) :: st) ws :=
  AW.one hi (fun p e R s m args below meth c H locs A ls hx hb hd hc hl h0 => lv_tableOut hx hb hd (by rw [J_toInt hv]; exact h) ht h0) kk
theorem x_look {dflt off z : Int} {ps : Array (Int × Int)} {len tgt : Nat} (hi : M.2.2.2.2[i]? = some (pc, .lookupswitch dflt ps, len)) (hs : (ps.toList.zip (ps.toList.drop 1)).all (fun (a, next) => a.1 < next.1) = true) (hv : rg z) (ho : Op.lookupswitch.offset ps.toList dflt z = off) (ht : (pc : Int) + off = (tgt : Int))
    (kk : AW G d mc ms M X F k n tgt L st ws) : AW G d mc ms M X F k n pc L (.int (J z) :: st) ws :=
  AW.one hi (fun p e R s m args below meth c H locs A ls hx hb hd hc hl h0 => lv_lookup hx hb hd hs (by rw [J_toInt hv]; exact ho) ht h0) kk
end AWS

section AWE
variable {G : GG} {d mc ms : Nat} {M : MM} {k n pc i : Nat} {L : List (Option Value)} {ws : va_W} {Q : Option Value → va_W → Prop}
theorem x_ireturn {x : Int32} (hi : M.2.2.2.2[i]? = some (pc, .ireturn, 1)) (hr : M.2.2.2.1 = some .int) (hk : k ≤ mc) (hn : n ≤ ms) (hq : Q (some (.int x)) ws) : AW G d mc ms M XT (mF G mc ms Q) k n pc L [.int x] ws := by
  intro p e R s m args below meth c H locs A ls hc hP hD hS hl
  refine W.widen hk hn ?_
  exact W.iret hc.1.1 hc.1.2.1 (hc.1.2.2.1.trans hr) (fun t ht hW => ⟨⟨_, ws, rfl, hq, by rw [ht]; exact hP, hD⟩, hS.F ht⟩) hS.2.2 (hc.dec hi) hc.2.1.1
theorem x_zreturn {z : Int} (hi : M.2.2.2.2[i]? = some (pc, .ireturn, 1)) (hr : M.2.2.2.1 = some .boolean) (hk : k ≤ mc) (hn : n ≤ ms) (hz : z = 0 ∨ z = 1) (hq : Q (some (.int (J z))) ws) : AW G d mc ms M XT (mF G mc ms Q) k n pc L [.int (J z)] ws := by
  intro p e R s m args below meth c H locs A ls hc hP hD hS hl
  refine W.widen hk hn ?_
  exact W.zret hc.1.1 hc.1.2.1 (hc.1.2.2.1.trans hr) (by rcases hz with rfl | rfl <;> decide) (fun t ht hW => ⟨⟨_, ws, rfl, hq, by rw [ht]; exact hP, hD⟩, hS.F ht⟩) hS.2.2 (hc.dec hi) hc.2.1.1
theorem x_lreturn {x : Int64} (hi : M.2.2.2.2[i]? = some (pc, .lreturn, 1)) (hr : M.2.2.2.1 = some .long) (hk : k ≤ mc) (hn : n ≤ ms) (hq : Q (some (.long x)) ws) : AW G d mc ms M XT (mF G mc ms Q) k n pc L [.long x] ws := by
  intro p e R s m args below meth c H locs A ls hc hP hD hS hl
  refine W.widen hk hn ?_
  exact W.lret hc.1.1 hc.1.2.1 (hc.1.2.2.1.trans hr) (fun t ht hW => ⟨⟨_, ws, rfl, hq, by rw [ht]; exact hP, hD⟩, hS.F ht⟩) hS.2.2 (hc.dec hi) hc.2.1.1
theorem x_return (hi : M.2.2.2.2[i]? = some (pc, .return_, 1)) (hr : M.2.2.2.1 = none) (hk : k ≤ mc) (hn : n ≤ ms) (hq : Q none ws) : AW G d mc ms M XT (mF G mc ms Q) k n pc L [] ws := by
  intro p e R s m args below meth c H locs A ls hc hP hD hS hl
  refine W.widen hk hn ?_
  exact W.vret hc.1.1 hc.1.2.1 (hc.1.2.2.1.trans hr) (fun t ht hW => ⟨⟨_, ws, rfl, hq, by rw [ht]; exact hP, hD⟩, hS.F ht⟩) hS.2.2 (hc.dec hi) hc.2.1.1
end AWE
