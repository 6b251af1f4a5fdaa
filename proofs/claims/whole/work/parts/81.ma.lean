/-! ===== things are made ===== -/
section MKR
variable {G : GG} {d mc ms : Nat} {M : MM} {X : XX} {F : FF} {k n pc pc' i : Nat} {L : List (Option Value)} {st : List Value} {ws : va_W}
theorem x_newo {idx ci N : Nat} {C : String} {T : u_T} {ty : Nat → FieldType} {fs : List Value} (hi : M.2.2.2.2[i]? = some (pc, .new idx, 3)) (hp : pc + 3 = pc') (hcd : CD ci C T N ty) (w1 : Cond.classLink M.1.cls idx C ∈ lw_tbl) (w2 : Cond.instantiable C N ∈ lw_tbl) (w3 : Cond.initialized C ∈ lw_tbl) (hfs : ∀ j, j < N → defaultValue (ty j) = vp_V fs j) (hk : k + 1 ≤ mc) (hn : n + N ≤ ms)
    (kk : ∀ a : Nat, AW G d mc ms M X F (k + 1) (n + N) pc' L (.ref a :: st) (ws ++ [(a, .inr (ci, fs))])) : AW G d mc ms M X F k n pc L st ws := by
  subst hp
  intro p e R s m args below meth c H locs A ls hc hP hD hS hl
  obtain ⟨h1, h2, h3, h4⟩ := hcd
  have hT := hc.2.1.2.2.1
  exact va_new hc.1.1 hc.1.2.1 (u_ws_use hT h2) (fun _ h => h) ty h3 hc.1.2.2.2.2 (hT.use w1 rfl rfl) (hT.use w2 rfl rfl) (hT.use w3 rfl rfl) hc.2.1.2.2.2.1 hP hD hS hc.2.1.2.2.2.2 h1 hfs (by rw [hc.2.2.1.2.2.1]; exact hk) (by rw [hc.2.2.1.2.2.2]; exact hn) (hc.dec hi) (fun a H1 hP1 hD1 hS1 => kk a p e R s m args below meth c H1 locs A ls hc hP1 hD1 hS1 hl)
theorem x_newi {z : Int} {N : Nat} (hi : M.2.2.2.2[i]? = some (pc, .newarray .int, 2)) (hp : pc + 2 = pc') (hz : z = N) (hN : N ≤ 100000) (w1 : Cond.arrayClass .int ∈ lw_tbl) (hk : k + 1 ≤ mc) (hn : n + N ≤ ms)
    (kk : ∀ a : Nat, AW G d mc ms M X F (k + 1) (n + N) pc' L (.ref a :: st) (ws ++ [(a, sA G N (fun _ => 0))])) : AW G d mc ms M X F k n pc L (.int (J z) :: st) ws := by
  subst hp
  subst hz
  intro p e R s m args below meth c H locs A ls hc hP hD hS hl
  have hT := hc.2.1.2.2.1
  have hK := hc.2.1.2.2.2.1
  refine va_newa (atype := .int) (ty := .int) (a0 := (N, .inl (fun _ => 0))) hc.1.1 hc.1.2.1 (word_at (State.WarmedH.refl s) (Or.inr ⟨_, rfl⟩) (hT _ w1 rfl)) rfl hK hP hD hS hc.2.1.2.2.2.2 (fun cA => rfl) (by rw [← J_0, J_lt ⟨by omega, by omega⟩ rg_0]; omega) (by rw [J_cl (by omega) (by omega)]; omega) (by show N * 4 ≤ 536870912; omega) (by rw [hc.2.2.1.2.2.1]; exact hk) (by rw [hc.2.2.1.2.2.2]; exact hn) (hc.dec hi) (fun a cA H1 hK1 hP1 hD1 hS1 => ?_)
  have e1 := va_nm_int (hK1.2 3 (cA, .int) rfl).2
  have e2 := va_nm_int (hK.2 0 (G.2.2.1.1, .int) rfl).2
  have e3 : cA = G.2.2.1.1 := Option.some.inj (e1.symm.trans e2)
  rw [e3] at hP1 hD1
  exact kk a p e R s m args below meth c H1 locs A ls hc hP1 hD1 hS1 hl
theorem x_newz {z : Int} {N : Nat} (hi : M.2.2.2.2[i]? = some (pc, .newarray .boolean, 2)) (hp : pc + 2 = pc') (hz : z = N) (hN : N ≤ 100000) (w1 : Cond.arrayClass .boolean ∈ lw_tbl) (hk : k + 1 ≤ mc) (hn : n + N ≤ ms)
    (kk : ∀ a : Nat, AW G d mc ms M X F (k + 1) (n + N) pc' L (.ref a :: st) (ws ++ [(a, sZ G N (fun _ => 0))])) : AW G d mc ms M X F k n pc L (.int (J z) :: st) ws := by
  subst hp
  subst hz
  intro p e R s m args below meth c H locs A ls hc hP hD hS hl
  have hT := hc.2.1.2.2.1
  have hK := hc.2.1.2.2.2.1
  refine va_newa (atype := .boolean) (ty := .boolean) (a0 := (N, .inl (fun _ => 0))) hc.1.1 hc.1.2.1 (word_at (State.WarmedH.refl s) (Or.inr ⟨_, rfl⟩) (hT _ w1 rfl)) rfl hK hP hD hS hc.2.1.2.2.2.2 (fun cA => rfl) (by rw [← J_0, J_lt ⟨by omega, by omega⟩ rg_0]; omega) (by rw [J_cl (by omega) (by omega)]; omega) (by show N * 1 ≤ 536870912; omega) (by rw [hc.2.2.1.2.2.1]; exact hk) (by rw [hc.2.2.1.2.2.2]; exact hn) (hc.dec hi) (fun a cA H1 hK1 hP1 hD1 hS1 => ?_)
  have e1 := va_nm_boolean (hK1.2 3 (cA, .boolean) rfl).2
  have e2 := va_nm_boolean (hK.2 1 (G.2.2.1.2.1, .boolean) rfl).2
  have e3 : cA = G.2.2.1.2.1 := Option.some.inj (e1.symm.trans e2)
  rw [e3] at hP1 hD1
  exact kk a p e R s m args below meth c H1 locs A ls hc hP1 hD1 hS1 hl
theorem x_newq {z : Int} {N idx : Nat} (hi : M.2.2.2.2[i]? = some (pc, .anewarray idx, 3)) (hp : pc + 3 = pc') (hz : z = N) (hN : N ≤ 100000) (w1 : Cond.arrayOver (.object RX9) ∈ lw_tbl) (w2 : Cond.classLink M.1.cls idx RX9 ∈ lw_tbl) (hk : k + 1 ≤ mc) (hn : n + N ≤ ms)
    (kk : ∀ a : Nat, AW G d mc ms M X F (k + 1) (n + N) pc' L (.ref a :: st) (ws ++ [(a, .inl (G.2.2.1.2.2, N, .inr (.inr (.inr (.inr (fun _ => none))))))])) : AW G d mc ms M X F k n pc L (.int (J z) :: st) ws := by
  subst hp
  subst hz
  intro p e R s m args below meth c H locs A ls hc hP hD hS hl
  have hT := hc.2.1.2.2.1
  have hK := hc.2.1.2.2.2.1
  refine va_newq hc.1.1 hc.1.2.1 hc.1.2.2.2.2 (hT.use w2 rfl rfl) (va_AO.of (hT _ w1 rfl)) hK hP hD hS hc.2.1.2.2.2.2 (by rw [← J_0, J_lt ⟨by omega, by omega⟩ rg_0]; omega) (N' := N) (by rw [J_cl (by omega) (by omega)]; omega) (by omega) (by rw [hc.2.2.1.2.2.1]; exact hk) (by rw [hc.2.2.1.2.2.2]; exact hn) (hc.dec hi) (fun a cA H1 hK1 hP1 hD1 hS1 => ?_)
  have e1 := va_nmO (hK1.2 3 (cA, .object RX9) rfl).2 rfl
  have e2 := va_nmO (hK.2 2 (G.2.2.1.2.2, .object RX9) rfl).2 rfl
  have e3 : cA = G.2.2.1.2.2 := Option.some.inj (e1.symm.trans e2)
  rw [e3] at hP1 hD1
  exact kk a p e R s m args below meth c H1 locs A ls hc hP1 hD1 hS1 hl
theorem x_aast {q a len v qk : Nat} {f : Nat → Option Nat} {vs : List Value} {z : Int} (hi : M.2.2.2.2[i]? = some (pc, .aastore, 1)) (hp : pc + 1 = pc') (hq : ws[q]? = some (a, .inl (G.2.2.1.2.2, len, .inr (.inr (.inr (.inr f)))))) (hv : ws[qk]? = some (v, .inr (9, vs))) (h0 : 0 ≤ z) (h1 : z < len) (hlen : len < 2147483648)
    (kk : AW G d mc ms M X F k n pc' L st (ws.set q (a, .inl (G.2.2.1.2.2, len, .inr (.inr (.inr (.inr (va_up f z.toNat (some v))))))))) : AW G d mc ms M X F k n pc L (.ref v :: .int (J z) :: .ref a :: st) ws := by
  subst hp
  intro p e R s m args below meth c H locs A ls hc hP hD hS hl
  refine va_astq hc.1.1 hc.1.2.1 hc.2.1.2.2.2.1 hP hD hS q 2 qk 9 (r := (RX9, TX9, 3)) hq rfl hv rfl (J_in h0 h1 hlen) (hc.dec hi) (fun H1 locs1 hP1 hD1 hS1 => ?_)
  rw [J_cl h0 (by omega)] at hP1 hD1
  exact kk p e R s m args below meth c H1 locs1 A ls hc hP1 hD1 hS1 hl
theorem x_oinit {idx a : Nat} (hi : M.2.2.2.2[i]? = some (pc, .invokespecial idx, 3)) (hp : pc + 3 = pc') (hd : 1 ≤ d) (hroom : (st.map fun v => v.category).sum ≤ 8) (w1 : Cond.methodLink M.1.cls idx Lib.objectInit ∈ lw_tbl) (w2 : Cond.instanceMethod Lib.objectInit ∈ lw_tbl) (w3 : Cond.code Lib.objectInit ⟨#[0xb1]⟩ 1 none ∈ lw_tbl)
    (kk : AW G d mc ms M X F k n pc' L st ws) : AW G d mc ms M X F k n pc L (.ref a :: st) ws := by
  subst hp
  intro p e R s m args below meth c H locs A ls hc hP hD hS hl
  have hT := hc.2.1.2.2.1
  have hr := lv_room (m := m) (pc := pc) (ls := ls) (rest := .ref a :: st) hroom
  refine W.objInit hc.1.1 hc.1.2.1 hc.1.2.2.2.2 (hT.use w1 rfl rfl) (hT.use w2 rfl rfl) (hT.use w3 rfl rfl) rfl (hl.1.trans hc.1.2.2.2.1.symm) rfl (hc.dec hi) (Nat.le_trans hd hc.2.2.1.1) ?_ (kk p e R s m args below meth c H locs A ls hc hP hD hS hl)
  have h2 := hc.2.2.1.2.1
  omega
/-- an int into a row -/
theorem x_iastJ {q a len : Nat} {r : Row} {z v : Int} (hi : M.2.2.2.2[i]? = some (pc, .iastore, 1)) (hp : pc + 1 = pc') (hq : ws[q]? = some (a, sA G len r)) (h0 : 0 ≤ z ∧ z < len) (hlen : len < 2147483648)
    (kk : AW G d mc ms M X F k n pc' L st (ws.set q (a, sA G len (ur r z v)))) : AW G d mc ms M X F k n pc L (.int (J v) :: .int (J z) :: .ref a :: st) ws := by
  refine x_iast hi hp hq h0.1 h0.2 hlen ?_
  rw [upd_J h0.1]
  exact kk
/-- the world in another order -/
theorem x_sub {ws' : va_W} (is : List Nat) (hn : va_nd is = true) (hs : is.map (fun i => ws[i]?) = ws'.map some) (hf : is.filterMap (fun i => ws[i]?) = ws') (kk : AW G d mc ms M X F k n pc L st ws') : AW G d mc ms M X F k n pc L st ws :=
  fun p e R s m args below meth c H locs A ls hc hP hD hS hl => kk p e R s m args below meth c H locs A ls hc (hP.sub is hf) (hD.sub is hn hs) hS hl
theorem run_AWF {mc' ms' : Nat} {p : Program} {e : Env} {R : Room} {s : State} {m : MethodId} {args : Array Value} {below : List Frame} {meth : Method} {c : Code} {H : Heap} {locs : List Loc} {A : Nat → Prop} {ls : Array Slot} {st rest : List Value} {av : Array Value} {Q : Option Value → va_W → Prop} {wc wr : va_W} (isC isR : List Nat) (hC : isC.map (fun i => ws[i]?) = wc.map some) (hR : isR.map (fun i => ws[i]?) = wr.map some) (hnd : va_nd isR = true) (hdis : ∀ i ∈ isR, i ∉ isC)
    (hr : va_Run p G.1 e R s m args below meth c H locs k n mc' ms' (F0 m pc ls st) rest (AQA G (va_A wc H.size) Q av) (va_A wc H.size)) (hc : CX G d mc ms M X p R s m args meth c A) (hP : va_P G.2.1 classes ws H) (hD : va_D A ws) (hS : va_S A s.heap H locs) (hl : lvh ls M.2.2.1 L)
    (kk : ∀ (r : Option Value) (w1 : va_W), Q r w1 → AW G d mc ms M X F (k + mc') (n + ms') (pc + 3) L (psh r rest) (wr ++ w1)) : W p G.1 e R s m args below meth c H locs k n (F below args s A) (F0 m pc ls st) := by
  have hA : ∀ q : Nat, va_A wc H.size q → A q := va_free hD hS hc.2.1.2.2.2.2 isC hC
  intro T hT Y
  obtain ⟨v, st₀, t, T', L2, h0, Y', hL, e1, e2, ⟨⟨r, w1, hv, hq, hP1, hD1⟩, hz, hk⟩, stp⟩ := hr T hT Y
  cases hv
  rw [h0] at hz hk
  obtain ⟨hP2, hD2⟩ := va_join hP hD isC isR hC hR hnd hdis hk hA hP1 hD1
  obtain ⟨t2, a1, b1⟩ := kk v w1 hq p e R s m args below meth c T'.heap (locs ++ L2) A ls hc (by rw [e1]; exact hP2) hD2
    ⟨Nat.le_trans hS.1 (by rw [e1]; exact hz), fun q h1 h2 => by rw [e1, hk q (Nat.lt_of_lt_of_le h1 hS.1) (fun z => h2 (hA q z))]; exact hS.2.1 q h1 h2, fun q hq => by
      rcases List.mem_append.mp hq with h | h
      · exact hS.2.2 q h
      · exact hA _ (hL q h)⟩ hl T' rfl Y'
  rw [← psh_eq] at a1
  exact ⟨t2, stp t2 a1, b1⟩
/-- a constructor over its own part of the world -/
theorem x_callIF {Q : Option Value → va_W → Prop} {idx b np d' mc' ms' : Nat} {N : MM} {av rest : List Value} {wc wr : va_W} (isC isR : List Nat) (hi : M.2.2.2.2[i]? = some (pc, .invokespecial idx, 3)) (hp : pc + 3 = pc') (hd : d' + 1 ≤ d) (hm : MI M.1.cls idx N np) (hn : av.length = np) (hst : st = av.reverse ++ .ref b :: rest) (hroom : (rest.map fun v => v.category).sum ≤ 8) (hcel : k + mc' ≤ mc) (hslo : n + ms' ≤ ms)
    (hC : isC.map (fun i => ws[i]?) = wc.map some) (hCf : isC.filterMap (fun i => ws[i]?) = wc) (hCn : va_nd isC = true) (hR : isR.map (fun i => ws[i]?) = wr.map some) (hnd : va_nd isR = true) (hdis : isR.all (fun i => !(isC.contains i)) = true)
    (kk : AM G d' mc' ms' N (.ref b :: av) wc Q) (hQ : ∀ (r : Option Value) (w1 : va_W), Q r w1 → AW G d mc ms M X F (k + mc') (n + ms') pc' L (psh r rest) (wr ++ w1)) : AW G d mc ms M X F k n pc L st ws := by
  subst hp
  have hdis2 : ∀ i ∈ isR, i ∉ isC := fun i h1 h2 => by
    have := List.all_eq_true.mp hdis i h1
    simp at this
    exact this h2
  intro p e R s m args below meth c H locs A ls hc hP hD hS hl
  obtain ⟨⟨hlk, hini, hcode, hy, hlen, hnl⟩, hnm, hret, hin⟩ := hm
  have hT := hc.2.1.2.2.1
  have hM := kk d' (Nat.le_refl _) H.size
  rw [hret] at hM
  rw [hret] at hcode
  have hPc := hP.sub isC hCf
  have hDc := hD.sub isC hCn hC
  have hpre : PreS s H (AP G (.ref b :: av) wc H.size) (.ref b :: av) := ⟨AP.blind _ _ _ _, fun U hU hW => ⟨rfl, by rw [hU], hT.moved hW, by rw [hU]; exact hPc, va_K.moved hW.alike hc.2.1.2.2.2.1, hDc.weaken (fun _ _ _ _ => trivial)⟩⟩
  have hR2 : (rmD d' mc' ms').frames + 1 ≤ R.frames ∧ 8 + (N.2.2.1 + 11) + (rmD d' mc' ms').locals ≤ R.locals := ⟨Nat.le_trans hd hc.2.2.1.1, by have h1 := hc.2.2.1.2.1; show 8 + (N.2.2.1 + 11) + 40 * d' ≤ R.locals; omega⟩
  have hcs : k + mc' ≤ R.cells ∧ n + ms' ≤ R.slots := ⟨by rw [hc.2.2.1.2.2.1]; exact hcel, by rw [hc.2.2.1.2.2.2]; exact hslo⟩
  have hws : ∀ w ∈ [Cond.code N.1 N.2.1 N.2.2.1 none], ∀ (a' : Array Value) (U : State), s.WarmedH U.vm → w.before a' U = true := fun w hw a' U hW => by
    rw [List.mem_singleton.mp hw]; exact (hT.moved hW).use hcode rfl rfl
  have S : CallFix p m c M.2.1 M.2.2.1 s args ([] : List Cond) M.1.cls := ⟨hc.1.1, hc.1.2.1, hc.1.2.2.2.1, hc.1.2.2.2.2, fun w hw => by cases hw⟩
  rcases hlk with hlk | ⟨host, hlk⟩
  · exact run_AWF isC isR hC hR hnd hdis2 (va_runI S hM ⟨⟨rfl, rfl, hR2.1, hR2.2, hws, List.mem_cons_self, hT.use hcode rfl rfl, hT.use hini rfl rfl, hy, len_of hlen, hT.use hlk rfl rfl⟩, hnm, hT.use hin rfl rfl⟩ hpre rfl hn hl.1 hst (lv_room hroom) (hc.dec hi) hcs) hc hP hD hS hl hQ
  · exact run_AWF isC isR hC hR hnd hdis2 (va_runIN S hM ⟨⟨⟨rfl, rfl, hR2.1, hR2.2, hws, List.mem_cons_self⟩, hT.use hcode rfl rfl, hT.use hini rfl rfl, hy, len_of hlen, hT.use hlk rfl rfl⟩, hnm, hT.use hin rfl rfl⟩ hpre rfl hn hl.1 hst (lv_room hroom) (hc.dec hi) hcs) hc hP hD hS hl hQ
end MKR
