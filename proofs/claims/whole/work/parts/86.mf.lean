/-! ===== the memory behind the constructors ===== -/
def w4 : Row := (ur (ur (ur (ur r0 0 1) 1 1) 2 1) 3 1)
def p6 : Row := (ur (ur (ur (ur (ur (ur r0 0 0) 1 1) 2 2) 3 3) 4 4) 5 5)
def w77 : Row := (ur (ur (ur (ur (ur (ur (ur (ur (ur (ur r0 130 1) 131 1) 132 1) 133 1) 134 0) 135 1) 136 2) 137 3) 138 4) 139 5)
def m00 : Mem := fun q => if q = 4 then w4 else if q = 13 then w4 else if q = 20 then w4 else if q = 27 then w4 else if q = 34 then w4 else if q = 41 then w4 else if q = 48 then w4 else if q = 7 then p6 else if q = 16 then p6 else if q = 23 then p6 else if q = 30 then p6 else if q = 37 then p6 else if q = 44 then p6 else if q = 51 then p6 else if q = 77 then w77 else r0
theorem w4_at (j : Int) : w4 j = if 0 ≤ j ∧ j ≤ 3 then 1 else 0 := by
  unfold w4 ur r0
  (repeat' split) <;> omega
theorem p6_at (j : Int) : p6 j = if 0 ≤ j ∧ j ≤ 5 then j else 0 := by
  unfold p6 ur r0
  (repeat' split) <;> omega
theorem w77_at (j : Int) : w77 j = if 130 ≤ j ∧ j ≤ 133 then 1 else if 134 ≤ j ∧ j ≤ 139 then j - 134 else 0 := by
  unfold w77 ur r0
  (repeat' split) <;> omega
theorem m00_MR : MR m00 := by
  intro q j
  have h1 := w4_at j
  have h2 := p6_at j
  have h3 := w77_at j
  have b1 : rg (w4 j) := by rw [h1]; split <;> decide
  have b2 : rg (p6 j) := by rw [h2]; split <;> omega
  have b3 : rg (w77 j) := by rw [h3]; (repeat' split) <;> omega
  have b0 : rg (r0 j) := rg_0
  have K : ∀ {c : Prop} [Decidable c] {u v : Row}, rg (u j) → rg (v j) → rg ((if c then u else v) j) := fun {c} _ {u v} hu hv => by
    by_cases hc : c
    · rw [if_pos hc]; exact hu
    · rw [if_neg hc]; exact hv
  unfold m00
  exact K b1 (K b1 (K b1 (K b1 (K b1 (K b1 (K b1 (K b2 (K b2 (K b2 (K b2 (K b2 (K b2 (K b2 (K b3 b0))))))))))))))
theorem INV_0 : INV 0 m00 := by
  have e0 : ∀ q : Nat, (q = 2 ∨ q = 3 ∨ q = 5 ∨ q = 6 ∨ q = 8 ∨ q = 52 ∨ q = 53 ∨ q = 68 ∨ q = 75 ∨ q = 76 ∨ q = 78 ∨ q = 79) → m00 q = r0 := fun q hq => by
    rcases hq with rfl | rfl | rfl | rfl | rfl | rfl | rfl | rfl | rfl | rfl | rfl | rfl <;> rfl
  have z : ∀ j, r0 j = 0 := fun _ => rfl
  have e4 : m00 4 = w4 := rfl
  have e7 : m00 7 = p6 := rfl
  have e77 : m00 77 = w77 := rfl
  have hp : prm (m00 7) := by
    rw [e7]
    refine ⟨fun s a b => ?_, fun s t a b c d h => ?_, fun v a b => ⟨v, a, b, ?_⟩⟩
    · rw [p6_at, if_pos ⟨a, b⟩]; exact ⟨a, b⟩
    · rw [p6_at, p6_at, if_pos ⟨a, b⟩, if_pos ⟨c, d⟩] at h; exact h
    · rw [p6_at, if_pos ⟨a, b⟩]
  have hS : SE m00 m00 := by
    refine ⟨⟨?_, ?_, fun k j a b => ?_, fun k a b => ?_, fun j a b => ?_, fun i a b => ?_, hp⟩, ?_, ?_, fun k j a b => ?_, fun i j a b => ?_, fun j a b => ?_, fun j a b => ?_⟩
    · rw [e0 2 (by omega), z]; omega
    · rw [e0 5 (by omega), z]; omega
    · rw [e0 2 (by omega), z] at b; omega
    · rw [e0 2 (by omega), z] at b; omega
    · rw [e4, w4_at, if_pos ⟨a, b⟩]; omega
    · rw [e0 5 (by omega), z] at b; omega
    · rw [e0 2 (by omega), z, e77, w77_at]; rfl
    · rw [e0 5 (by omega), z, e77, w77_at]; rfl
    · rw [e0 2 (by omega), z] at b; omega
    · rw [e0 5 (by omega), z] at b; omega
    · rw [e4, e77, w4_at, w77_at, if_pos ⟨a, b⟩, if_pos (by omega)]
    · rw [e7, e77, p6_at, w77_at, if_pos ⟨a, b⟩, if_neg (by omega), if_pos (by omega)]; omega
  refine ⟨m00_MR, hS.1, (eqm_2 m00 m00).mpr hS.2, ⟨?_, ?_, fun i a b => ?_⟩, ?_, fun s a b => ?_, by decide, fun i a b => ?_⟩
  · unfold PX; rw [e0 8 (by omega), z, z]; omega
  · rw [e0 76 (by omega), e0 8 (by omega), z, z]
  · rw [e0 8 (by omega), z] at b; omega
  · rw [e0 52 (by omega), e0 76 (by omega), z, z]; exact ⟨by omega, rfl, fun i a b => by omega⟩
  · rw [e0 68 (by omega), z]; omega
  · rw [e0 75 (by omega), e0 78 (by omega), z]; omega
/-! THE CLAIM OUT OF ONE WALK OF THE LAW'S BODY. Your part is whole_start (and what it stands on); all else here is the same for every law, but numbers. -/
def R_law : String := "GestureBookLaw"
def lw_P (b : Addr) (xs : List Int32) (args : Array Value) (s : State) : Prop := args = #[.ref b] ∧ s.IntsAt b xs ∧ xs.length ≤ 3072 ∧ (Jvm.Cond.and given_1 narrow_1).before args s = true
def lw_Q (_ : Array Value) (s : State) (o : Outcome) (t : State) : Prop := o = .returned (some (.int 1)) ∧ Framed s o t [] 600000 7302250
def lw_Z (below : List Frame) (a : Array Value) (s : State) : State → Prop := fun t => ∃ o, t.status = .running ∧ Ended t below o ∧ lw_Q a s o t
/-- the law's own end, with 1 on the stack, nothing written that was there before, its room as the claim has it -/
theorem lw_ret {p : Program} {l : Launch} {e : Env} {s : State} {m : MethodId} {below : List Frame} {meth : Method} {c : Code} {b : Nat} (hx : p.tables.exec = Jvm.exec) (hb : c.code = code) (hr : meth.sig.returnType = ret) (hlocks : meth.locks = false) {pc : Nat} {H : Heap} {ls : Array Slot} (hdg : decode code pc = .ok (.ireturn, 1)) : W p l e room_1 s m #[Value.ref b] below meth c H [] 600000 7302250 (lw_Z below #[Value.ref b] s) (F0 m pc ls [.int 1]) := by
  intro T hT X
  obtain ⟨fs, hret, hrun, hended, hW, hframe⟩ := X.leave (v := some (.int 1)) (hlocks := hlocks) (fun h => by rw [hr] at h; cases h)
  have hmeth' : T.vm.method? m = some meth := X.method'
  refine ⟨T.setFrames fs, ?_, .returned (some (.int 1)), hrun, hended, rfl, ⟨_, rfl⟩, hW, hframe⟩
  jvm_step X.here [X.here.top, hx, hb, hdg, hmeth', hr, ret, narrow_b1]
  (try refine ⟨rfl, ?_⟩); (try refine ⟨rfl, ?_⟩)
  first | (intro acts; rw [hret _ acts rfl rfl rfl]) | rw [hret _ _ rfl rfl rfl]
  exact Steps.refl _
/-- what holds at the law's entry: the machine, the code, the tables' words (any of lw_tbl by 'hts w (by decide +kernel)'), the script of L ints xs at the cell b, what the Statement gives of the start (any of its parts by flat_of_before) -/
def lw_At (p : Program) (s : State) (m : MethodId) (meth : Method) (c : Code) (b L : Nat) (xs : Nat → Int32) : Prop :=
  p.tables.exec = Jvm.exec ∧ c.code = code ∧ meth.sig.returnType = ret ∧ c.maxLocals = 4 ∧ s.vm.findClass R_law = some m.cls ∧ (∀ w ∈ lw_tbl, w.before #[Value.ref b] s = true) ∧ va_X b L xs s s.heap ∧ b < s.heap.size ∧ meth.locks = false ∧ (Jvm.Cond.and given_1 narrow_1).before #[Value.ref b] s = true
/-- the law's own end, with 1 on the stack, nothing written that was there before, its room as the claim has it -/
theorem lw_retR {R : Room} {p : Program} {l : Launch} {e : Env} {s : State} {m : MethodId} {below : List Frame} {meth : Method} {c : Code} {b : Nat} (hx : p.tables.exec = Jvm.exec) (hb : c.code = code) (hr : meth.sig.returnType = ret) (hlocks : meth.locks = false) {pc : Nat} {H : Heap} {ls : Array Slot} (hdg : decode code pc = .ok (.ireturn, 1)) : W p l e R s m #[Value.ref b] below meth c H [] 600000 7302250 (lw_Z below #[Value.ref b] s) (F0 m pc ls [.int 1]) := by
  intro T hT X
  obtain ⟨fs, hret, hrun, hended, hW, hframe⟩ := X.leave (v := some (.int 1)) (hlocks := hlocks) (fun h => by rw [hr] at h; cases h)
  have hmeth' : T.vm.method? m = some meth := X.method'
  refine ⟨T.setFrames fs, ?_, .returned (some (.int 1)), hrun, hended, rfl, ⟨_, rfl⟩, hW, hframe⟩
  jvm_step X.here [X.here.top, hx, hb, hdg, hmeth', hr, ret, narrow_b1]
  (try refine ⟨rfl, ?_⟩); (try refine ⟨rfl, ?_⟩)
  first | (intro acts; rw [hret _ acts rfl rfl rfl]) | rw [hret _ _ rfl rfl rfl]
  exact Steps.refl _

/-! ===== the law's rules ===== -/
def ML (nm : String) : MM := (⟨RL, nm, "([I)Z"⟩, code, 4, ret, inL)
def XL (b Ln : Nat) (xs : Nat → Int32) : XX := fun s args A => args = #[Value.ref b] ∧ va_X b Ln xs s s.heap ∧ b < s.heap.size ∧ ∀ q, A q → s.heap.size ≤ q
def FW : FF := fun below args s _ => lw_Z below args s
section LR
variable {G : GG} {d mc ms : Nat} {M : MM} {X : XX} {F : FF} {k n pc pc' i b Ln : Nat} {xs : Nat → Int32} {L : List (Option Value)} {st : List Value} {ws : va_W} {m : Mem}
theorem x_slen (hi : M.2.2.2.2[i]? = some (pc, .arraylength, 1)) (hp : pc + 1 = pc')
    (kk : AW G d mc ms M (XL b Ln xs) F k n pc' L (.int (J Ln) :: st) ws) : AW G d mc ms M (XL b Ln xs) F k n pc L (.ref b :: st) ws := by
  subst hp
  intro p e R s m args below meth c H locs A ls hc hP hD hS hl
  obtain ⟨-, hX, hbl, hA⟩ := hc.2.2.2.2
  refine va_slen hc.1.1 hc.1.2.1 hX hbl (fun q => absurd (hA b q) (by omega)) hS (hc.dec hi) ?_
  rw [show Int32.ofNat Ln = J Ln from (J_nat Ln).symm]
  exact kk p e R s m args below meth c H locs A ls hc hP hD hS hl
theorem x_sld {z : Int} (hi : M.2.2.2.2[i]? = some (pc, .iaload, 1)) (hp : pc + 1 = pc') (hL : Ln ≤ 3072) (h0 : 0 ≤ z) (h1 : z < Ln)
    (kk : AW G d mc ms M (XL b Ln xs) F k n pc' L (.int (J (xs z.toNat).toInt) :: st) ws) : AW G d mc ms M (XL b Ln xs) F k n pc L (.int (J z) :: .ref b :: st) ws := by
  subst hp
  intro p e R s m args below meth c H locs A ls hc hP hD hS hl
  obtain ⟨-, hX, hbl, hA⟩ := hc.2.2.2.2
  refine va_sld hc.1.1 hc.1.2.1 hX hbl (fun q => absurd (hA b q) (by omega)) hS (J_in h0 h1 (by omega)) (hc.dec hi) ?_
  rw [J_cl h0 (by omega)]
  have e1 := J_of (xs z.toNat)
  have h := kk p e R s m args below meth c H locs A ls hc hP hD hS hl
  rw [← e1] at h
  exact h
theorem x_same {x : Int32} {off : Int} {tgt : Nat} (hi : M.2.2.2.2[i]? = some (pc, .if_icmp .eq off, 3)) (ht : (pc : Int) + off = (tgt : Int))
    (kt : AW G d mc ms M X F k n tgt L st ws) : AW G d mc ms M X F k n pc L (.int x :: .int x :: st) ws := by
  intro p e R s m args below meth c H locs A ls hc hP hD hS hl
  exact lv_icmp_eq hc.1.1 hc.1.2.1 (hc.dec hi) ht (fun h => kt p e R s m args below meth c H locs A ls hc hP hD hS hl) (fun h => absurd rfl h)
theorem x_lsame {x : Int64} (hi : M.2.2.2.2[i]? = some (pc, .lcmp, 1)) (hp : pc + 1 = pc')
    (kk : AW G d mc ms M X F k n pc' L (.int (J 0) :: st) ws) : AW G d mc ms M X F k n pc L (.long x :: .long x :: st) ws := by
  subst hp
  have e0 : lg_cmp x x = J 0 := by unfold lg_cmp; simp; rfl
  exact AW.one hi (fun p e R s m args below meth c H locs A ls hx hb hd hc hl h => W.lcmp hx hb hd (by rw [e0]; exact h)) kk
theorem psh_room (r : Option Value) : ((psh r []).map fun v => v.category).sum ≤ 8 := by
  cases r with
  | none => decide
  | some v => cases v <;> exact Nat.le_of_ble_eq_true rfl
theorem l_call {idx q ci np : Nat} {N : MM} {r0 : vw_C} {f : Row → va_E} {fs : List Value} {av rest : List Value} {Q : Option Value → Mem → Prop} (hi : M.2.2.2.2[i]? = some (pc, .invokevirtual idx, 3)) (hp : pc + 3 = pc') (hd : 20 + 1 ≤ d) (hm : MV M.1.cls idx N np) (hs : (shp G)[q]? = some f) (ho : f (m q) = .inr (ci, fs)) (hcl : classes[ci]? = some r0) (hcn : r0.1 = N.1.cls) (hn : av.length = np) (hst : st = av.reverse ++ .ref (G.2.2.2 q) :: rest) (hroom : (rest.map fun v => v.category).sum ≤ 8) (hk : k ≤ mc) (hn2 : n ≤ ms)
    (kk : CM G 20 N (.ref (G.2.2.2 q) :: av) m Q) (hQ : ∀ (r : Option Value) (m' : Mem), Q r m' → AW G d mc ms M X F k n pc' L (psh r rest) (wd G m')) : AW G d mc ms M X F k n pc L st (wd G m) :=
  x_callV hi hp hd hm (by rw [wd_get hs, ho]) hcl hcn hn hst hroom hk hn2 kk (fun r ws' h => by obtain ⟨m', rfl, h⟩ := h; exact hQ r m' h)
theorem x_lawret {nm : String} (hk : k ≤ 600000) (hn : n ≤ 7302250) (hi : inL[i]? = some (pc, .ireturn, 1)) : AW G d mc ms (ML nm) (XL b Ln xs) FW k n pc L [.int (J 1)] ws := by
  intro p e R s m args below meth c H locs A ls hc hP hD hS hl
  obtain ⟨rfl, hX, hbl, hA⟩ := hc.2.2.2.2
  refine va_forget (fun q hq => hA _ (hS.2.2 q hq)) ?_
  refine W.widen hk hn ?_
  exact lw_retR hc.1.1 hc.1.2.1 hc.1.2.2.1 hc.2.1.1 (hc.dec (M := ML nm) hi)
theorem and31 (x : Int32) : 0 ≤ (x &&& 31).toInt ∧ (x &&& 31).toInt ≤ 31 := by
  have h1 : (x &&& 31).toBitVec.toNat ≤ 31 := by
    rw [Int32.toBitVec_and, BitVec.toNat_and]
    exact Nat.and_le_right
  have h2 : (x &&& 31).toInt = (x &&& 31).toBitVec.toInt := rfl
  rw [h2, BitVec.toInt_eq_toNat_of_lt (by omega)]
  omega
end LR
