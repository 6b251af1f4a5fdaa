/-! ===== ints of the machine as whole numbers ===== -/
abbrev GG : Type := Launch × va_G × (ClassId × ClassId × ClassId) × (Nat → Nat)
abbrev MM : Type := MethodName × ByteArray × Nat × Option FieldType × List (Nat × Instr × Nat)
def gT (G : GG) : List (ClassId × FieldType) := [(G.2.2.1.1, .int), (G.2.2.1.2.1, .boolean), (G.2.2.1.2.2, .object RX9)]
/-! ===== the words of the tables, at any later state ===== -/
def okw : Cond → Bool
  | .fieldLinkNest .. => true
  | .methodLinkNest .. => true
  | .arrayOver (.object _) => true
  | w => goodWord w
def TabOk (U : State) : Prop := ∀ w ∈ lw_tbl, okw w = true → w.before #[] U = true
theorem TabOk.moved {s U : State} (hW : s.WarmedH U.vm) (h : TabOk s) : TabOk U := by
  intro w hm ho
  have hb := h w hm ho
  cases w with
  | fieldLinkNest a i b n d h => exact va_Nw.warmF hW hb
  | methodLinkNest a i x h => exact va_Nw.warmM hW hb
  | arrayOver ty =>
    cases ty with
    | object C => exact va_AO.moved hW.alike hb
    | _ => cases ho
  | _ => exact word_at hW (good_of_word ho) hb
theorem TabOk.use {s : State} (h : TabOk s) {w : Cond} (hm : w ∈ lw_tbl) (ho : okw w = true) (ht : w.onTables = true) {args : Array Value} : w.before args s = true := va_tabs ht rfl (h w hm ho)
theorem TabOk.calling {U : State} (h : TabOk U) (g : JFrame) (mk : MethodId) (a : Array Value) : TabOk (U.calling g mk a) := TabOk.moved (s := U) (State.WarmedH.refl U) h
/-! ===== locals: a list of what the slots hold ===== -/
def lvl : Nat → List (Option Value) → List (Nat × Value)
  | _, [] => []
  | i, none :: t => lvl (i + 1) t
  | i, some v :: t => (i, v) :: lvl (i + 1) t
theorem lvl_mem : ∀ (L : List (Option Value)) (k : Nat) (q : Nat × Value), q ∈ lvl k L ↔ ∃ j : Nat, q.1 = k + j ∧ L[j]? = some (some q.2)
  | [], k, q => by simp [lvl]
  | none :: t, k, q => by
    rw [lvl, lvl_mem t (k + 1) q]
    constructor
    · rintro ⟨j, h1, h2⟩; exact ⟨j + 1, by omega, by simpa using h2⟩
    · rintro ⟨j, h1, h2⟩
      cases j with
      | zero => simp at h2
      | succ j => exact ⟨j, by omega, by simpa using h2⟩
  | some v :: t, k, q => by
    rw [lvl, List.mem_cons, lvl_mem t (k + 1) q]
    constructor
    · rintro (h | ⟨j, h1, h2⟩)
      · exact ⟨0, by rw [h]; rfl, by rw [h]; rfl⟩
      · exact ⟨j + 1, by omega, by simpa using h2⟩
    · rintro ⟨j, h1, h2⟩
      cases j with
      | zero =>
        left
        have h3 : v = q.2 := by simpa using h2
        exact Prod.ext (by simpa using h1) h3.symm
      | succ j => exact Or.inr ⟨j, by omega, by simpa using h2⟩
def lvh (ls : Array Slot) (nL : Nat) (L : List (Option Value)) : Prop := lv_has ls nL (lvl 0 L)
theorem lvh.at {ls : Array Slot} {nL : Nat} {L : List (Option Value)} (h : lvh ls nL L) {i : Nat} {v : Value} (hi : L[i]? = some (some v)) : ls[i]? = some (.val v) :=
  h.2.2 (i, v) ((lvl_mem L 0 (i, v)).mpr ⟨i, by simp, hi⟩)
theorem lvh.of {ls : Array Slot} {nL : Nat} {l : List (Nat × Value)} {L : List (Option Value)} (h : lv_has ls nL l) (hm : ∀ (i : Nat) (v : Value), L[i]? = some (some v) → (i, v) ∈ l) : lvh ls nL L :=
  ⟨h.1, h.2.1, fun q hq => by
    obtain ⟨j, h1, h2⟩ := (lvl_mem L 0 q).mp hq
    have hj : q.1 = j := by omega
    exact h.2.2 q (by have := hm j q.2 h2; rwa [← hj] at this)⟩
/-- fewer of them -/
def lvle : List (Option Value) → List (Option Value) → Prop
  | _, [] => True
  | [], b :: bs => b = none ∧ lvle [] bs
  | a :: as, b :: bs => (b = none ∨ b = a) ∧ lvle as bs
theorem lvle_at : ∀ (L K : List (Option Value)), lvle L K → ∀ (i : Nat) (v : Value), K[i]? = some (some v) → L[i]? = some (some v)
  | _, [], _, i, v, h => by simp at h
  | [], b :: bs, hl, i, v, h => by
    cases i with
    | zero => simp at h; rw [hl.1] at h; cases h
    | succ i => simpa using lvle_at [] bs hl.2 i v (by simpa using h)
  | a :: as, b :: bs, hl, i, v, h => by
    cases i with
    | zero =>
      simp at h
      rcases hl.1 with h1 | h1
      · rw [h1] at h; cases h
      · simp [← h1, h]
    | succ i => simpa using lvle_at as bs hl.2 i v (by simpa using h)
theorem lvh.le {ls : Array Slot} {nL : Nat} {L K : List (Option Value)} (h : lvh ls nL L) (hl : lvle L K) : lvh ls nL K :=
  lvh.of h (fun i v hi => (lvl_mem L 0 (i, v)).mpr ⟨i, by simp, lvle_at L K hl i v hi⟩)
def catok (L : List (Option Value)) : Nat → Bool
  | 0 => true
  | j + 1 => match L[j]? with
    | some (some v) => v.category == 1
    | _ => true
theorem lvl_store1 {L : List (Option Value)} {i : Nat} {v : Value} (hc : catok L i = true) : ∀ (j : Nat) (w : Value), (L.set i (some v))[j]? = some (some w) → (j, w) ∈ ((i, v) :: (lvl 0 L).filter (fun q => !(q.1 == i) && !(q.1 + 1 == i && q.2.category == 2))) := by
  intro j w h
  by_cases hj : j = i
  · subst hj
    by_cases hl : j < L.length
    · rw [List.getElem?_set_self hl] at h
      have : v = w := by simpa using h
      rw [this]; exact List.mem_cons_self
    · rw [List.getElem?_eq_none (by simpa using Nat.not_lt.mp hl)] at h; cases h
  · rw [List.getElem?_set_ne (Ne.symm hj)] at h
    refine List.mem_cons_of_mem _ (List.mem_filter.mpr ⟨(lvl_mem L 0 (j, w)).mpr ⟨j, by simp, h⟩, ?_⟩)
    by_cases h1 : j + 1 = i
    · subst h1
      simp only [catok, h] at hc
      have h2 : w.category = 1 := by simpa using hc
      simp [h2]
    · simp [hj, h1]
theorem lvl_store2 {L : List (Option Value)} {i : Nat} {v : Value} (hc : catok L i = true) : ∀ (j : Nat) (w : Value), ((L.set i (some v)).set (i + 1) none)[j]? = some (some w) → (j, w) ∈ ((i, v) :: (lvl 0 L).filter (fun q => !(q.1 == i) && (!(q.1 == i + 1) && !(q.1 + 1 == i && q.2.category == 2)))) := by
  intro j w h
  by_cases hj1 : j = i + 1
  · subst hj1
    by_cases hl : i + 1 < (L.set i (some v)).length
    · rw [List.getElem?_set_self hl] at h; cases h
    · rw [List.getElem?_eq_none (by simpa using Nat.not_lt.mp hl)] at h; cases h
  · rw [List.getElem?_set_ne (Ne.symm hj1)] at h
    by_cases hj : j = i
    · subst hj
      by_cases hl : j < L.length
      · rw [List.getElem?_set_self hl] at h
        have : v = w := by simpa using h
        rw [this]; exact List.mem_cons_self
      · rw [List.getElem?_eq_none (by simpa using Nat.not_lt.mp hl)] at h; cases h
    · rw [List.getElem?_set_ne (Ne.symm hj)] at h
      refine List.mem_cons_of_mem _ (List.mem_filter.mpr ⟨(lvl_mem L 0 (j, w)).mpr ⟨j, by simp, h⟩, ?_⟩)
      by_cases h1 : j + 1 = i
      · subst h1
        simp only [catok, h] at hc
        have h2 : w.category = 1 := by simpa using hc
        simp [h2]
        omega
      · simp [hj, hj1, h1]
def entA : List Value → List (Option Value)
  | [] => []
  | v :: t => if v.category = 2 then some v :: none :: entA t else some v :: entA t
def entL (n : Nat) (av : List Value) : List (Option Value) := entA av ++ List.replicate (n - (entA av).length) none
theorem entA_mem : ∀ (av : List Value) (k i : Nat) (v : Value), (entA av)[i]? = some (some v) → (k + i, v) ∈ lv_args k av
  | [], k, i, v, h => by simp [entA] at h
  | w :: t, k, i, v, h => by
    by_cases hc : w.category = 2
    · rw [entA, if_pos hc] at h
      rw [lv_args, if_pos hc]
      match i, h with
      | 0, h =>
        have : w = v := by simpa using h
        rw [this]; exact List.mem_cons_self
      | 1, h => simp at h
      | i + 2, h =>
        have := entA_mem t (k + 2) i v (by simpa using h)
        rw [show k + (i + 2) = k + 2 + i by omega]
        exact List.mem_cons_of_mem _ this
    · rw [entA, if_neg hc] at h
      rw [lv_args, if_neg hc]
      match i, h with
      | 0, h =>
        have : w = v := by simpa using h
        rw [this]; exact List.mem_cons_self
      | i + 1, h =>
        have := entA_mem t (k + 1) i v (by simpa using h)
        rw [show k + (i + 1) = k + 1 + i by omega]
        exact List.mem_cons_of_mem _ this
theorem entL_mem {n : Nat} {av : List Value} {i : Nat} {v : Value} (h : (entL n av)[i]? = some (some v)) : (i, v) ∈ lv_args 0 av := by
  unfold entL at h
  by_cases hl : i < (entA av).length
  · rw [List.getElem?_append_left hl] at h
    simpa using entA_mem av 0 i v h
  · rw [List.getElem?_append_right (Nat.not_lt.mp hl)] at h
    have := List.mem_of_getElem? h
    simp at this
/-! ===== the judgement ===== -/
abbrev XX : Type := State → Array Value → (Nat → Prop) → Prop
abbrev FF : Type := List Frame → Array Value → State → (Nat → Prop) → State → Prop
def XT : XX := fun _ _ _ => True
def CX (G : GG) (d mc ms : Nat) (M : MM) (X : XX) (p : Program) (R : Room) (s : State) (m : MethodId) (args : Array Value) (meth : Method) (c : Code) (A : Nat → Prop) : Prop :=
  (p.tables.exec = Jvm.exec ∧ c.code = M.2.1 ∧ meth.sig.returnType = M.2.2.2.1 ∧ c.maxLocals = M.2.2.1 ∧ s.vm.findClass M.1.cls = some m.cls) ∧ (meth.locks = false ∧ meth.name = M.1.name ∧ TabOk s ∧ va_K G.2.1 classes (gT G) s ∧ ∀ q, s.heap.size ≤ q → A q) ∧ (d ≤ R.frames ∧ 40 * d ≤ R.locals ∧ R.cells = mc ∧ R.slots = ms) ∧ (∀ q ∈ M.2.2.2.2, decode M.2.1 q.1 = .ok q.2) ∧ X s args A
def AW (G : GG) (d mc ms : Nat) (M : MM) (X : XX) (F : FF) (k n pc : Nat) (L : List (Option Value)) (st : List Value) (ws : va_W) : Prop :=
  ∀ (p : Program) (e : Env) (R : Room) (s : State) (m : MethodId) (args : Array Value) (below : List Frame) (meth : Method) (c : Code) (H : Heap) (locs : List Loc) (A : Nat → Prop) (ls : Array Slot),
    CX G d mc ms M X p R s m args meth c A → va_P G.2.1 classes ws H → va_D A ws → va_S A s.heap H locs → lvh ls M.2.2.1 L → W p G.1 e R s m args below meth c H locs k n (F below args s A) (F0 m pc ls st)
def AQA (G : GG) (A : Nat → Prop) (Q : Option Value → va_W → Prop) : Array Value → State → Outcome → State → Prop := fun _ st oc t =>
  (∃ (r : Option Value) (ws : va_W), oc = .returned r ∧ Q r ws ∧ va_P G.2.1 classes ws t.heap ∧ va_D A ws) ∧ va_F A st t
def mF (G : GG) (mc ms : Nat) (Q : Option Value → va_W → Prop) : FF := fun below args s A => MQ below (AQA G A Q) args s mc ms A
def rmD (d mc ms : Nat) : Room := { frames := d, cells := mc, slots := ms, locals := 40 * d }
def AP (G : GG) (av : List Value) (ws : va_W) (sz : Nat) : Array Value → State → Prop := va_Pc av (fun U => U.heap.size = sz ∧ TabOk U ∧ va_P G.2.1 classes ws U.heap ∧ va_K G.2.1 classes (gT G) U ∧ va_D (fun _ => True) ws)
def AM (G : GG) (d mc ms : Nat) (M : MM) (av : List Value) (ws : va_W) (Q : Option Value → va_W → Prop) : Prop :=
  ∀ d' : Nat, d ≤ d' → ∀ sz : Nat, Met G.1 M.1 [.code M.1 M.2.1 M.2.2.1 M.2.2.2.1] (rmD d' mc ms) (AP G av ws sz) (AQA G (va_A ws sz) Q) mc ms (va_A ws sz)
theorem AP.blind (G : GG) (av : List Value) (ws : va_W) (sz : Nat) : FrameBlind (AP G av ws sz) := by
  intro a U g mk h
  obtain ⟨h1, h2, h3, h4, h5, h6⟩ := h
  exact ⟨h1, h2, h3.calling g mk a, h4, va_K.moved (u := U) (U := U.calling g mk a) (Vm.Alike.refl U.vm) h5, h6⟩
theorem AM.mono {G : GG} {d d2 mc ms : Nat} {M : MM} {av : List Value} {ws : va_W} {Q : Option Value → va_W → Prop} (h : AM G d mc ms M av ws Q) (hd : d ≤ d2) : AM G d2 mc ms M av ws Q := fun d' h1 sz => h d' (Nat.le_trans hd h1) sz
theorem AM.ofAW {G : GG} {d mc ms : Nat} {M : MM} {av : List Value} {ws : va_W} {Q : Option Value → va_W → Prop} (L : List (Option Value)) (hL : entL M.2.2.1 av = L) (hn : (lg_sl av).length ≤ M.2.2.1) (hy : plainName M.1.cls = true ∨ plainFor M.1 = true) (hdec : ∀ q ∈ M.2.2.2.2, decode M.2.1 q.1 = .ok q.2)
    (h : AW G d mc ms M XT (mF G mc ms Q) 0 0 0 L [] ws) : AM G d mc ms M av ws Q := by
  subst hL
  intro d' hd sz
  have body : ∀ p e s m args below meth c s₁, BodyLoose p G.1 M.1 (headSpec [.code M.1 M.2.1 M.2.2.1 M.2.2.2.1] (rmD d' mc ms)) M.2.1 M.2.2.1 M.2.2.2.1 e s m args below meth c s₁ → c.maxLocals = M.2.2.1 → AP G av ws sz args s →
      W p G.1 e (headSpec [.code M.1 M.2.1 M.2.2.1 M.2.2.2.1] (rmD d' mc ms)).room s m args below meth c s.heap [] 0 0 (MQ below (AQA G (va_A ws sz) Q) args s mc ms (va_A ws sz)) (entryFrame m args M.2.2.1) := by
    intro p e s m args below meth c s₁ B hml hv
    obtain ⟨rfl, hsz, hT, hP, hK, hD0⟩ := hv
    subst hsz
    have hD := hD0.self (sz := s.heap.size)
    have hl := lv_entry av (n := M.2.2.1) hn
    rw [lg_entry_eq]
    refine h p e _ s m _ below meth c s.heap [] (va_A ws s.heap.size) _ ⟨⟨B.exec, B.bytes, B.returns, hml, findClass_of_methodNamed B.named⟩, ⟨B.notSynchronized, (name_of_methodNamed B.named B.method).1, hT, hK, fun q hq => Or.inr hq⟩, ⟨hd, Nat.mul_le_mul_left 40 hd, rfl, rfl⟩, hdec, trivial⟩ hP hD va_S.rf ?_
    exact lvh.of hl (fun i v hi => entL_mem hi)
  rcases hy with hy | hy
  · exact Met.ofW (cc := M.2.1) (maxL := M.2.2.1) (ret := M.2.2.2.1) hy rfl body
  · exact va_MetF (cc := M.2.1) (maxL := M.2.2.1) (ret := M.2.2.2.1) hy rfl body
section AWR
variable {G : GG} {d mc ms : Nat} {M : MM} {X : XX} {F : FF} {k n pc pc' i : Nat} {L : List (Option Value)} {st : List Value} {ws : va_W}
theorem CX.dec {p : Program} {R : Room} {s : State} {m : MethodId} {args : Array Value} {meth : Method} {c : Code} {A : Nat → Prop} (h : CX G d mc ms M X p R s m args meth c A) {I : Instr} {len : Nat} (hi : M.2.2.2.2[i]? = some (pc, I, len)) : decode M.2.1 pc = .ok (I, len) :=
  h.2.2.2.1 (pc, I, len) (List.mem_of_getElem? hi)
/-- one instruction that reads and writes the stack alone -/
theorem AW.one {I : Instr} {len : Nat} {st' : List Value} (hi : M.2.2.2.2[i]? = some (pc, I, len))
    (h : ∀ (p : Program) (e : Env) (R : Room) (s : State) (m : MethodId) (args : Array Value) (below : List Frame) (meth : Method) (c : Code) (H : Heap) (locs : List Loc) (A : Nat → Prop) (ls : Array Slot), p.tables.exec = Jvm.exec → c.code = M.2.1 → decode M.2.1 pc = .ok (I, len) → CX G d mc ms M X p R s m args meth c A → lvh ls M.2.2.1 L → W p G.1 e R s m args below meth c H locs k n (F below args s A) (F0 m pc' ls st') → W p G.1 e R s m args below meth c H locs k n (F below args s A) (F0 m pc ls st))
    (kk : AW G d mc ms M X F k n pc' L st' ws) : AW G d mc ms M X F k n pc L st ws :=
  fun p e R s m args below meth c H locs A ls hc hP hD hS hl => h p e R s m args below meth c H locs A ls hc.1.1 hc.1.2.1 (hc.dec hi) hc hl (kk p e R s m args below meth c H locs A ls hc hP hD hS hl)
theorem AW.le {K : List (Option Value)} (hl : lvle L K) (kk : AW G d mc ms M X F k n pc K st ws) : AW G d mc ms M X F k n pc L st ws :=
  fun p e R s m args below meth c H locs A ls hc hP hD hS h => kk p e R s m args below meth c H locs A ls hc hP hD hS (h.le hl)
end AWR
