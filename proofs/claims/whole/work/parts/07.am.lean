/-! ===== fields, arrays, calls ===== -/
def CD (ci : Nat) (C : String) (T : u_T) (N : Nat) (ty : Nat → FieldType) : Prop := classes[ci]? = some (C, T, N) ∧ (∀ w ∈ u_ws C T N, w ∈ lw_tbl) ∧ (∀ k, k < N → parseFieldDescriptor (T k).2.2.1 = some (ty k)) ∧ ∀ a, a < N → ∀ b, b < N → a ≠ b → (T a).2.1 ≠ (T b).2.1
def FL (own : String) (idx ci k : Nat) (fin : Bool) (fty : FieldType) : Prop := ∃ (C : String) (T : u_T) (N : Nat) (ty : Nat → FieldType), CD ci C T N ty ∧ k < N ∧ (T k).2.2.2 = fin ∧ ty k = fty ∧ ((Cond.fieldLink own idx (T k).1 (T k).2.1 (T k).2.2.1) ∈ lw_tbl ∨ ∃ host, Cond.fieldLinkNest own idx (T k).1 (T k).2.1 (T k).2.2.1 host ∈ lw_tbl)
theorem u_lay_ok (C : String) (T : u_T) (k : Nat) : okw (u_lay C T k) = true ∧ (u_lay C T k).onTables = true := by
  unfold u_lay; split <;> exact ⟨rfl, rfl⟩
theorem u_ws_use {s : State} {args : Array Value} (h : TabOk s) {C : String} {T : u_T} {N : Nat} (hin : ∀ w ∈ u_ws C T N, w ∈ lw_tbl) : ∀ w ∈ u_ws C T N, w.before args s = true := by
  intro w hw
  have hm := hin w hw
  obtain ⟨k, -, rfl⟩ := List.mem_map.mp hw
  exact h.use hm (u_lay_ok C T k).1 (u_lay_ok C T k).2
section AWM
variable {G : GG} {d mc ms : Nat} {M : MM} {X : XX} {F : FF} {k n pc pc' i : Nat} {L : List (Option Value)} {st : List Value} {ws : va_W}
theorem x_getf {idx ci kf q a : Nat} {fin : Bool} {fty : FieldType} {fs : List Value} {v : Value} (hi : M.2.2.2.2[i]? = some (pc, .getfield idx, 3)) (hp : pc + 3 = pc') (hf : FL M.1.cls idx ci kf fin fty) (hq : ws[q]? = some (a, .inr (ci, fs))) (hv : fs[kf]? = some v)
    (kk : AW G d mc ms M X F k n pc' L (v :: st) ws) : AW G d mc ms M X F k n pc L (.ref a :: st) ws := by
  subst hp
  intro p e R s m args below meth c H locs A ls hc hP hD hS hl
  obtain ⟨C, T, N, ty, ⟨h1, h2, h3, h4⟩, hk, -, -, hlk⟩ := hf
  have h := kk p e R s m args below meth c H locs A ls hc hP hD hS hl
  rcases hlk with hlk | ⟨host, hlk⟩
  · exact va_get hc.1.1 hc.1.2.1 (u_ws_use hc.2.1.2.2.1 h2) (fun _ h => h) hc.1.2.2.2.2 hc.2.1.2.2.2.1 hP q hq h1 kf hk (hc.2.1.2.2.1.use hlk rfl rfl) (fun _ h => h) hv (hc.dec hi) h
  · exact va_getN hc.1.1 hc.1.2.1 (u_ws_use hc.2.1.2.2.1 h2) (fun _ h => h) hc.1.2.2.2.2 hc.2.1.2.2.2.1 hP q hq h1 kf hk (hc.2.1.2.2.1.use hlk rfl rfl) (fun _ h => h) hv (hc.dec hi) h
theorem x_putf {idx ci kf q a : Nat} {fty : FieldType} {fs : List Value} {v : Value} (hi : M.2.2.2.2[i]? = some (pc, .putfield idx, 3)) (hp : pc + 3 = pc') (hf : FL M.1.cls idx ci kf false fty) (hq : ws[q]? = some (a, .inr (ci, fs))) (hl0 : kf < fs.length) (hn : narrow fty v = v) (hfit : fits fty v = true)
    (kk : AW G d mc ms M X F k n pc' L st (ws.set q (a, .inr (ci, fs.set kf v)))) : AW G d mc ms M X F k n pc L (v :: .ref a :: st) ws := by
  subst hp
  intro p e R s m args below meth c H locs A ls hc hP hD hS hl
  obtain ⟨C, T, N, ty, ⟨h1, h2, h3, h4⟩, hk, hfin, hty, hlk⟩ := hf
  have h5 := h3 kf hk
  rw [hty] at h5
  rcases hlk with hlk | ⟨host, hlk⟩
  · exact va_put hc.1.1 hc.1.2.1 (u_ws_use hc.2.1.2.2.1 h2) (fun _ h => h) ty h3 h4 hc.1.2.2.2.2 hc.2.1.2.2.2.1 hP hD hS q hq h1 kf hk (hc.2.1.2.2.1.use hlk rfl rfl) (fun _ h => h) hfin h5 hn hfit hl0 (hc.dec hi) (fun H1 locs1 hP1 hD1 hS1 => kk p e R s m args below meth c H1 locs1 A ls hc hP1 hD1 hS1 hl)
  · exact va_putN hc.1.1 hc.1.2.1 (u_ws_use hc.2.1.2.2.1 h2) (fun _ h => h) ty h3 h4 hc.1.2.2.2.2 hc.2.1.2.2.2.1 hP hD hS q hq h1 kf hk (hc.2.1.2.2.1.use hlk rfl rfl) (fun _ h => h) hfin h5 hn hfit hl0 (hc.dec hi) (fun H1 locs1 hP1 hD1 hS1 => kk p e R s m args below meth c H1 locs1 A ls hc hP1 hD1 hS1 hl)
/-- a final field, in a constructor -/
theorem x_putF {idx ci kf q a : Nat} {fty : FieldType} {fs : List Value} {v : Value} (hi : M.2.2.2.2[i]? = some (pc, .putfield idx, 3)) (hp : pc + 3 = pc') (hf : FL M.1.cls idx ci kf true fty) (hin : M.1.name = "<init>") (hq : ws[q]? = some (a, .inr (ci, fs))) (hl0 : kf < fs.length) (hn : narrow fty v = v) (hfit : fits fty v = true) (hown : ∀ (T : u_T) (C : String) (N : Nat), classes[ci]? = some (C, T, N) → (T kf).1 = M.1.cls) (hnest : ∀ (T : u_T) (C : String) (N : Nat) (host : String), classes[ci]? = some (C, T, N) → ¬ Cond.fieldLinkNest M.1.cls idx (T kf).1 (T kf).2.1 (T kf).2.2.1 host ∈ lw_tbl)
    (kk : AW G d mc ms M X F k n pc' L st (ws.set q (a, .inr (ci, fs.set kf v)))) : AW G d mc ms M X F k n pc L (v :: .ref a :: st) ws := by
  subst hp
  intro p e R s m args below meth c H locs A ls hc hP hD hS hl
  obtain ⟨C, T, N, ty, ⟨h1, h2, h3, h4⟩, hk, hfin, hty, hlk⟩ := hf
  have h5 := h3 kf hk
  rw [hty] at h5
  rcases hlk with hlk | ⟨host, hlk⟩
  · exact va_putF hc.1.1 hc.1.2.1 (u_ws_use hc.2.1.2.2.1 h2) (fun _ h => h) ty h3 h4 hc.1.2.2.2.2 hc.2.1.2.2.2.1 hP hD hS q hq h1 kf hk (hc.2.1.2.2.1.use hlk rfl rfl) (fun _ h => h) hfin (hc.2.1.2.1.trans hin) (hown T C N h1) h5 hn hfit hl0 (hc.dec hi) (fun H1 locs1 hP1 hD1 hS1 => kk p e R s m args below meth c H1 locs1 A ls hc hP1 hD1 hS1 hl)
  · exact absurd hlk (hnest T C N host h1)
/-- arrays of ints -/
theorem x_iald {q a len : Nat} {f : Nat → Int32} {z : Int} (hi : M.2.2.2.2[i]? = some (pc, .iaload, 1)) (hp : pc + 1 = pc') (hq : ws[q]? = some (a, .inl (G.2.2.1.1, len, .inl f))) (h0 : 0 ≤ z) (h1 : z < len) (hlen : len < 2147483648)
    (kk : AW G d mc ms M X F k n pc' L (.int (f z.toNat) :: st) ws) : AW G d mc ms M X F k n pc L (.int (J z) :: .ref a :: st) ws := by
  subst hp
  intro p e R s m args below meth c H locs A ls hc hP hD hS hl
  refine va_iald hc.1.1 hc.1.2.1 hc.2.1.2.2.2.1 hP q 0 hq rfl (J_in h0 h1 hlen) (hc.dec hi) ?_
  rw [J_cl h0 (by omega)]
  exact kk p e R s m args below meth c H locs A ls hc hP hD hS hl
theorem x_zald {q a len : Nat} {f : Nat → Int32} {z : Int} (hi : M.2.2.2.2[i]? = some (pc, .baload, 1)) (hp : pc + 1 = pc') (hq : ws[q]? = some (a, .inl (G.2.2.1.2.1, len, .inl f))) (h0 : 0 ≤ z) (h1 : z < len) (hlen : len < 2147483648)
    (kk : AW G d mc ms M X F k n pc' L (.int (f z.toNat) :: st) ws) : AW G d mc ms M X F k n pc L (.int (J z) :: .ref a :: st) ws := by
  subst hp
  intro p e R s m args below meth c H locs A ls hc hP hD hS hl
  refine va_zald hc.1.1 hc.1.2.1 hc.2.1.2.2.2.1 hP q 1 hq rfl (J_in h0 h1 hlen) (hc.dec hi) ?_
  rw [J_cl h0 (by omega)]
  exact kk p e R s m args below meth c H locs A ls hc hP hD hS hl
theorem x_iast {q a len : Nat} {f : Nat → Int32} {z : Int} {x : Int32} (hi : M.2.2.2.2[i]? = some (pc, .iastore, 1)) (hp : pc + 1 = pc') (hq : ws[q]? = some (a, .inl (G.2.2.1.1, len, .inl f))) (h0 : 0 ≤ z) (h1 : z < len) (hlen : len < 2147483648)
    (kk : AW G d mc ms M X F k n pc' L st (ws.set q (a, .inl (G.2.2.1.1, len, .inl (upd f z.toNat x))))) : AW G d mc ms M X F k n pc L (.int x :: .int (J z) :: .ref a :: st) ws := by
  subst hp
  intro p e R s m args below meth c H locs A ls hc hP hD hS hl
  refine va_iast hc.1.1 hc.1.2.1 hc.2.1.2.2.2.1 hP hD hS q 0 hq rfl (J_in h0 h1 hlen) (hc.dec hi) (fun H1 locs1 hP1 hD1 hS1 => ?_)
  rw [J_cl h0 (by omega)] at hP1 hD1
  exact kk p e R s m args below meth c H1 locs1 A ls hc hP1 hD1 hS1 hl
theorem x_zast {q a len : Nat} {f : Nat → Int32} {z y : Int} (hi : M.2.2.2.2[i]? = some (pc, .bastore, 1)) (hp : pc + 1 = pc') (hq : ws[q]? = some (a, .inl (G.2.2.1.2.1, len, .inl f))) (h0 : 0 ≤ z) (h1 : z < len) (hlen : len < 2147483648) (hy : y = 0 ∨ y = 1)
    (kk : AW G d mc ms M X F k n pc' L st (ws.set q (a, .inl (G.2.2.1.2.1, len, .inl (upd f z.toNat (J y)))))) : AW G d mc ms M X F k n pc L (.int (J y) :: .int (J z) :: .ref a :: st) ws := by
  subst hp
  intro p e R s m args below meth c H locs A ls hc hP hD hS hl
  refine va_zast hc.1.1 hc.1.2.1 hc.2.1.2.2.2.1 hP hD hS q 1 hq rfl (J_in h0 h1 hlen) (hc.dec hi) (fun H1 locs1 hP1 hD1 hS1 => ?_)
  rw [J_cl h0 (by omega)] at hP1 hD1
  have hn : vp_nar .boolean (J y) = J y := by rcases hy with rfl | rfl <;> decide
  first | (rw [hn] at hP1 hD1; exact kk p e R s m args below meth c H1 locs1 A ls hc hP1 hD1 hS1 hl) | exact kk p e R s m args below meth c H1 locs1 A ls hc hP1 hD1 hS1 hl
theorem x_alen {q a t0 : Nat} {cA : ClassId} {x : vp_A} {ty : FieldType} (hi : M.2.2.2.2[i]? = some (pc, .arraylength, 1)) (hp : pc + 1 = pc') (hq : ws[q]? = some (a, .inl (cA, x))) (ht : (gT G)[t0]? = some (cA, ty))
    (kk : AW G d mc ms M X F k n pc' L (.int (J x.1) :: st) ws) : AW G d mc ms M X F k n pc L (.ref a :: st) ws := by
  subst hp
  intro p e R s m args below meth c H locs A ls hc hP hD hS hl
  exact va_alen hc.1.1 hc.1.2.1 hc.2.1.2.2.2.1 hP q t0 hq ht (J_nat x.1).symm (hc.dec hi) (kk p e R s m args below meth c H locs A ls hc hP hD hS hl)
theorem x_aald {q a len : Nat} {f : Nat → Option Nat} {z : Int} {v : Nat} (hi : M.2.2.2.2[i]? = some (pc, .aaload, 1)) (hp : pc + 1 = pc') (hq : ws[q]? = some (a, .inl (G.2.2.1.2.2, len, .inr (.inr (.inr (.inr f)))))) (h0 : 0 ≤ z) (h1 : z < len) (hlen : len < 2147483648) (hv : f z.toNat = some v)
    (kk : AW G d mc ms M X F k n pc' L (.ref v :: st) ws) : AW G d mc ms M X F k n pc L (.int (J z) :: .ref a :: st) ws := by
  subst hp
  intro p e R s m args below meth c H locs A ls hc hP hD hS hl
  refine va_aldq hc.1.1 hc.1.2.1 hc.2.1.2.2.2.1 hP q 2 hq rfl (J_in h0 h1 hlen) (hc.dec hi) ?_
  rw [J_cl h0 (by omega), hv]
  exact kk p e R s m args below meth c H locs A ls hc hP hD hS hl
/-! calls -/
def MLk (own : String) (idx : Nat) (N : MM) (np : Nat) : Prop := (Cond.methodLink own idx N.1 ∈ lw_tbl ∨ ∃ host, Cond.methodLinkNest own idx N.1 host ∈ lw_tbl) ∧ Cond.initialized N.1.cls ∈ lw_tbl ∧ Cond.code N.1 N.2.1 N.2.2.1 N.2.2.2.1 ∈ lw_tbl ∧ (N.1.cls ≠ "java/lang/invoke/MethodHandle" ∧ N.1.cls ≠ "java/lang/invoke/VarHandle") ∧ (parseMethodDescriptor N.1.desc).map (fun d => d.parameters.length) = some np ∧ N.2.2.1 ≤ 21
def MV (own : String) (idx : Nat) (N : MM) (np : Nat) : Prop := MLk own idx N np ∧ Cond.instanceMethod N.1 ∈ lw_tbl ∧ Cond.selects N.1.cls N.1 N.1 ∈ lw_tbl
def MS (own : String) (idx : Nat) (N : MM) (np : Nat) : Prop := MLk own idx N np ∧ Cond.static N.1 ∈ lw_tbl
def MI (own : String) (idx : Nat) (N : MM) (np : Nat) : Prop := MLk own idx N np ∧ N.1.name = "<init>" ∧ N.2.2.2.1 = none ∧ Cond.instanceMethod N.1 ∈ lw_tbl
theorem run_AW {mc' ms' : Nat} {p : Program} {e : Env} {R : Room} {s : State} {m : MethodId} {args : Array Value} {below : List Frame} {meth : Method} {c : Code} {H : Heap} {locs : List Loc} {A : Nat → Prop} {ls : Array Slot} {st rest : List Value} {av : Array Value} {Q : Option Value → va_W → Prop}
    (hr : va_Run p G.1 e R s m args below meth c H locs k n mc' ms' (F0 m pc ls st) rest (AQA G (va_A ws H.size) Q av) (va_A ws H.size)) (hc : CX G d mc ms M X p R s m args meth c A) (hD : va_D A ws) (hS : va_S A s.heap H locs) (hl : lvh ls M.2.2.1 L)
    (kk : ∀ (r : Option Value) (ws' : va_W), Q r ws' → AW G d mc ms M X F (k + mc') (n + ms') (pc + 3) L (psh r rest) ws') : W p G.1 e R s m args below meth c H locs k n (F below args s A) (F0 m pc ls st) := by
  have hA : ∀ q : Nat, va_A ws H.size q → A q := by
    intro q h
    rcases h with ⟨j, x, h⟩ | h
    · exact hD.2 j _ h
    · exact hc.2.1.2.2.2.2 q (Nat.le_trans hS.1 h)
  intro T hT Y
  obtain ⟨v, st₀, t, T', L2, h0, Y', hL, e1, e2, ⟨⟨r, ws', hv, hq, hP1, hD1⟩, hz, hk⟩, stp⟩ := hr T hT Y
  cases hv
  rw [h0] at hz hk
  obtain ⟨t2, a1, b1⟩ := kk v ws' hq p e R s m args below meth c T'.heap (locs ++ L2) A ls hc (by rw [e1]; exact hP1) (hD1.weaken (fun _ _ _ h => hA _ h))
    ⟨Nat.le_trans hS.1 (by rw [e1]; exact hz), fun q h1 h2 => by rw [e1, hk q (Nat.lt_of_lt_of_le h1 hS.1) (fun z => h2 (hA q z))]; exact hS.2.1 q h1 h2, fun q hq => by
      rcases List.mem_append.mp hq with h | h
      · exact hS.2.2 q h
      · exact hA _ (hL q h)⟩ hl T' rfl Y'
  rw [← psh_eq] at a1
  exact ⟨t2, stp t2 a1, b1⟩
theorem len_of {N : MM} {np : Nat} (h : (parseMethodDescriptor N.1.desc).map (fun d => d.parameters.length) = some np) : ∀ sig, parseMethodDescriptor N.1.desc = some sig → np = sig.parameters.length := by
  intro sig h1
  rw [h1] at h
  exact (Option.some.inj h).symm
theorem tab_w {s : State} {U : State} {a' : Array Value} {N : MM} (hT : TabOk s) (hcode : Cond.code N.1 N.2.1 N.2.2.1 N.2.2.2.1 ∈ lw_tbl) (hW : s.WarmedH U.vm) : ∀ w ∈ [Cond.code N.1 N.2.1 N.2.2.1 N.2.2.2.1], w.before a' U = true := by
  intro w hw
  rw [List.mem_singleton.mp hw]
  exact (hT.moved hW).use hcode rfl rfl
theorem x_callV {Q : Option Value → va_W → Prop} {idx q b ci np d' mc' ms' : Nat} {N : MM} {r0 : vw_C} {fs : List Value} {av rest : List Value} (hi : M.2.2.2.2[i]? = some (pc, .invokevirtual idx, 3)) (hp : pc + 3 = pc') (hd : d' + 1 ≤ d) (hm : MV M.1.cls idx N np) (hq : ws[q]? = some (b, .inr (ci, fs))) (hcl : classes[ci]? = some r0) (hcn : r0.1 = N.1.cls) (hn : av.length = np) (hst : st = av.reverse ++ .ref b :: rest) (hroom : (rest.map fun v => v.category).sum ≤ 8) (hcel : k + mc' ≤ mc) (hslo : n + ms' ≤ ms)
    (kk : AM G d' mc' ms' N (.ref b :: av) ws Q) (hQ : ∀ (r : Option Value) (ws' : va_W), Q r ws' → AW G d mc ms M X F (k + mc') (n + ms') pc' L (psh r rest) ws') : AW G d mc ms M X F k n pc L st ws := by
  subst hp
  intro p e R s m args below meth c H locs A ls hc hP hD hS hl
  obtain ⟨⟨hlk, hini, hcode, hy, hlen, hnl⟩, hin, hsel⟩ := hm
  have hT := hc.2.1.2.2.1
  have hM := kk d' (Nat.le_refl _) H.size
  have hpre : PreV s H N.1.cls b (AP G (.ref b :: av) ws H.size) av := ⟨AP.blind _ _ _ _, by rw [← hcn]; exact va_recv hc.2.1.2.2.2.1 hP hcl hq, fun U hU hW => ⟨rfl, by rw [hU], hT.moved hW, by rw [hU]; exact hP, va_K.moved hW.alike hc.2.1.2.2.2.1, hD.weaken (fun _ _ _ _ => trivial)⟩⟩
  have hR : (rmD d' mc' ms').frames + 1 ≤ R.frames ∧ 8 + (N.2.2.1 + 11) + (rmD d' mc' ms').locals ≤ R.locals := ⟨Nat.le_trans hd hc.2.2.1.1, by have h1 := hc.2.2.1.2.1; show 8 + (N.2.2.1 + 11) + 40 * d' ≤ R.locals; omega⟩
  have hcs : k + mc' ≤ R.cells ∧ n + ms' ≤ R.slots := ⟨by rw [hc.2.2.1.2.2.1]; exact hcel, by rw [hc.2.2.1.2.2.2]; exact hslo⟩
  have S : CallFix p m c M.2.1 M.2.2.1 s args ([] : List Cond) M.1.cls := ⟨hc.1.1, hc.1.2.1, hc.1.2.2.2.1, hc.1.2.2.2.2, fun w hw => by cases hw⟩
  rcases hlk with hlk | ⟨host, hlk⟩
  · exact run_AW (va_runV S hM ⟨⟨rfl, rfl, hR.1, hR.2, fun w hw a' U hW => tab_w hT hcode hW w hw, List.mem_cons_self, hT.use hcode rfl rfl, hT.use hini rfl rfl, hy, len_of hlen, hT.use hlk rfl rfl⟩, hT.use hin rfl rfl, hT.use hsel rfl rfl⟩ hpre rfl hn hl.1 hst (lv_room hroom) (hc.dec hi) hcs) hc hD hS hl hQ
  · exact run_AW (va_runVN S hM ⟨⟨⟨rfl, rfl, hR.1, hR.2, fun w hw a' U hW => tab_w hT hcode hW w hw, List.mem_cons_self⟩, hT.use hcode rfl rfl, hT.use hini rfl rfl, hy, len_of hlen, hT.use hlk rfl rfl⟩, hT.use hin rfl rfl, hT.use hsel rfl rfl⟩ hpre rfl hn hl.1 hst (lv_room hroom) (hc.dec hi) hcs) hc hD hS hl hQ
theorem x_callS {Q : Option Value → va_W → Prop} {idx np d' mc' ms' : Nat} {N : MM} {av rest : List Value} (hi : M.2.2.2.2[i]? = some (pc, .invokestatic idx, 3)) (hp : pc + 3 = pc') (hd : d' + 1 ≤ d) (hm : MS M.1.cls idx N np) (hn : av.length = np) (hst : st = av.reverse ++ rest) (hroom : (rest.map fun v => v.category).sum ≤ 8) (hcel : k + mc' ≤ mc) (hslo : n + ms' ≤ ms)
    (kk : AM G d' mc' ms' N av ws Q) (hQ : ∀ (r : Option Value) (ws' : va_W), Q r ws' → AW G d mc ms M X F (k + mc') (n + ms') pc' L (psh r rest) ws') : AW G d mc ms M X F k n pc L st ws := by
  subst hp
  intro p e R s m args below meth c H locs A ls hc hP hD hS hl
  obtain ⟨⟨hlk, hini, hcode, hy, hlen, hnl⟩, hin⟩ := hm
  have hT := hc.2.1.2.2.1
  have hM := kk d' (Nat.le_refl _) H.size
  have hpre : PreS s H (AP G av ws H.size) av := ⟨AP.blind _ _ _ _, fun U hU hW => ⟨rfl, by rw [hU], hT.moved hW, by rw [hU]; exact hP, va_K.moved hW.alike hc.2.1.2.2.2.1, hD.weaken (fun _ _ _ _ => trivial)⟩⟩
  have hR : (rmD d' mc' ms').frames + 1 ≤ R.frames ∧ 8 + (N.2.2.1 + 11) + (rmD d' mc' ms').locals ≤ R.locals := ⟨Nat.le_trans hd hc.2.2.1.1, by have h1 := hc.2.2.1.2.1; show 8 + (N.2.2.1 + 11) + 40 * d' ≤ R.locals; omega⟩
  have hcs : k + mc' ≤ R.cells ∧ n + ms' ≤ R.slots := ⟨by rw [hc.2.2.1.2.2.1]; exact hcel, by rw [hc.2.2.1.2.2.2]; exact hslo⟩
  have S : CallFix p m c M.2.1 M.2.2.1 s args ([] : List Cond) M.1.cls := ⟨hc.1.1, hc.1.2.1, hc.1.2.2.2.1, hc.1.2.2.2.2, fun w hw => by cases hw⟩
  rcases hlk with hlk | ⟨host, hlk⟩
  · exact run_AW (va_runS S hM ⟨⟨rfl, rfl, hR.1, hR.2, fun w hw a' U hW => tab_w hT hcode hW w hw, List.mem_cons_self, hT.use hcode rfl rfl, hT.use hini rfl rfl, hy, len_of hlen, hT.use hlk rfl rfl⟩, hT.use hin rfl rfl⟩ hpre rfl hn hl.1 hst (lv_room hroom) (hc.dec hi) hcs) hc hD hS hl hQ
  · exact run_AW (va_runSN S hM ⟨⟨⟨rfl, rfl, hR.1, hR.2, fun w hw a' U hW => tab_w hT hcode hW w hw, List.mem_cons_self⟩, hT.use hcode rfl rfl, hT.use hini rfl rfl, hy, len_of hlen, hT.use hlk rfl rfl⟩, hT.use hin rfl rfl, trivial⟩ hpre rfl hn hl.1 hst (lv_room hroom) (hc.dec hi) hcs) hc hD hS hl hQ
theorem x_callI {Q : Option Value → va_W → Prop} {idx b np d' mc' ms' : Nat} {N : MM} {av rest : List Value} (hi : M.2.2.2.2[i]? = some (pc, .invokespecial idx, 3)) (hp : pc + 3 = pc') (hd : d' + 1 ≤ d) (hm : MI M.1.cls idx N np) (hn : av.length = np) (hst : st = av.reverse ++ .ref b :: rest) (hroom : (rest.map fun v => v.category).sum ≤ 8) (hcel : k + mc' ≤ mc) (hslo : n + ms' ≤ ms)
    (kk : AM G d' mc' ms' N (.ref b :: av) ws Q) (hQ : ∀ (r : Option Value) (ws' : va_W), Q r ws' → AW G d mc ms M X F (k + mc') (n + ms') pc' L (psh r rest) ws') : AW G d mc ms M X F k n pc L st ws := by
  subst hp
  intro p e R s m args below meth c H locs A ls hc hP hD hS hl
  obtain ⟨⟨hlk, hini, hcode, hy, hlen, hnl⟩, hnm, hret, hin⟩ := hm
  have hT := hc.2.1.2.2.1
  have hM := kk d' (Nat.le_refl _) H.size
  rw [hret] at hM
  rw [hret] at hcode
  have hpre : PreS s H (AP G (.ref b :: av) ws H.size) (.ref b :: av) := ⟨AP.blind _ _ _ _, fun U hU hW => ⟨rfl, by rw [hU], hT.moved hW, by rw [hU]; exact hP, va_K.moved hW.alike hc.2.1.2.2.2.1, hD.weaken (fun _ _ _ _ => trivial)⟩⟩
  have hR : (rmD d' mc' ms').frames + 1 ≤ R.frames ∧ 8 + (N.2.2.1 + 11) + (rmD d' mc' ms').locals ≤ R.locals := ⟨Nat.le_trans hd hc.2.2.1.1, by have h1 := hc.2.2.1.2.1; show 8 + (N.2.2.1 + 11) + 40 * d' ≤ R.locals; omega⟩
  have hcs : k + mc' ≤ R.cells ∧ n + ms' ≤ R.slots := ⟨by rw [hc.2.2.1.2.2.1]; exact hcel, by rw [hc.2.2.1.2.2.2]; exact hslo⟩
  have hws : ∀ w ∈ [Cond.code N.1 N.2.1 N.2.2.1 none], ∀ (a' : Array Value) (U : State), s.WarmedH U.vm → w.before a' U = true := fun w hw a' U hW => by
    rw [List.mem_singleton.mp hw]; exact (hT.moved hW).use hcode rfl rfl
  have S : CallFix p m c M.2.1 M.2.2.1 s args ([] : List Cond) M.1.cls := ⟨hc.1.1, hc.1.2.1, hc.1.2.2.2.1, hc.1.2.2.2.2, fun w hw => by cases hw⟩
  rcases hlk with hlk | ⟨host, hlk⟩
  · exact run_AW (va_runI S hM ⟨⟨rfl, rfl, hR.1, hR.2, hws, List.mem_cons_self, hT.use hcode rfl rfl, hT.use hini rfl rfl, hy, len_of hlen, hT.use hlk rfl rfl⟩, hnm, hT.use hin rfl rfl⟩ hpre rfl hn hl.1 hst (lv_room hroom) (hc.dec hi) hcs) hc hD hS hl hQ
  · exact run_AW (va_runIN S hM ⟨⟨⟨rfl, rfl, hR.1, hR.2, hws, List.mem_cons_self⟩, hT.use hcode rfl rfl, hT.use hini rfl rfl, hy, len_of hlen, hT.use hlk rfl rfl⟩, hnm, hT.use hin rfl rfl⟩ hpre rfl hn hl.1 hst (lv_room hroom) (hc.dec hi) hcs) hc hD hS hl hQ
end AWM
