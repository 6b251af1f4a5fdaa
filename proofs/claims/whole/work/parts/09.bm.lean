/-! ===== the rules over the memory ===== -/
section BWM
variable {G : GG} {d mc ms : Nat} {M : MM} {X : XX} {F : FF} {k n pc pc' i : Nat} {L : List (Option Value)} {st : List Value} {m : Mem}
theorem CM.of {G : GG} {d : Nat} {M : MM} {av : List Value} {m : Mem} {Q : Option Value → Mem → Prop} (hdec : ∀ q ∈ M.2.2.2.2, decode M.2.1 q.1 = .ok q.2) (hy : plainName M.1.cls = true ∨ plainFor M.1 = true) (L : List (Option Value)) (hL : entL M.2.2.1 av = L) (hn : (lg_sl av).length ≤ M.2.2.1)
    (h : AW G d 0 0 M XT (mF G 0 0 (Qm G Q)) 0 0 0 L [] (wd G m)) : CM G d M av m Q := AM.ofAW L hL hn hy hdec h
theorem m_getf {idx ci kf q : Nat} {fin : Bool} {fty : FieldType} {f : Row → va_E} {fs : List Value} {v : Value} (hi : M.2.2.2.2[i]? = some (pc, .getfield idx, 3)) (hp : pc + 3 = pc') (hf : FL M.1.cls idx ci kf fin fty) (hs : (shp G)[q]? = some f) (ho : f (m q) = .inr (ci, fs)) (hv : fs[kf]? = some v)
    (kk : AW G d mc ms M X F k n pc' L (v :: st) (wd G m)) : AW G d mc ms M X F k n pc L (.ref (G.2.2.2 q) :: st) (wd G m) :=
  x_getf hi hp hf (by rw [wd_get hs, ho]) hv kk
theorem m_putf {idx ci kf q : Nat} {z kz : Int} {f : Row → va_E} {fs : Row → List Value} {v : Value} {fty : FieldType} (hi : M.2.2.2.2[i]? = some (pc, .putfield idx, 3)) (hp : pc + 3 = pc') (hf : FL M.1.cls idx ci kf false fty) (hs : (shp G)[q]? = some f) (ho : ∀ r, f r = .inr (ci, fs r)) (hw : fs (ur (m q) kz z) = (fs (m q)).set kf v) (hl0 : kf < (fs (m q)).length) (hn : narrow fty v = v) (hfit : fits fty v = true)
    (kk : AW G d mc ms M X F k n pc' L st (wd G (stm m q kz z))) : AW G d mc ms M X F k n pc L (v :: .ref (G.2.2.2 q) :: st) (wd G m) := by
  refine x_putf hi hp hf (by rw [wd_get hs, ho]) hl0 hn hfit ?_
  rw [← hw, ← ho, wd_set hs]
  exact kk
theorem m_iald {q len : Nat} {z : Int} (hi : M.2.2.2.2[i]? = some (pc, .iaload, 1)) (hp : pc + 1 = pc') (hs : (shp G)[q]? = some (sA G len)) (hlen : len < 2147483648) (h0 : 0 ≤ z ∧ z < len)
    (kk : AW G d mc ms M X F k n pc' L (.int (J (m q z)) :: st) (wd G m)) : AW G d mc ms M X F k n pc L (.int (J z) :: .ref (G.2.2.2 q) :: st) (wd G m) := by
  refine x_iald hi hp (wd_get hs) h0.1 h0.2 hlen ?_
  show AW G d mc ms M X F k n pc' L (.int (J (m q (z.toNat : Int))) :: st) (wd G m)
  rw [Int.toNat_of_nonneg h0.1]
  exact kk
theorem m_zald {q len : Nat} {z : Int} (hi : M.2.2.2.2[i]? = some (pc, .baload, 1)) (hp : pc + 1 = pc') (hs : (shp G)[q]? = some (sZ G len)) (hlen : len < 2147483648) (h0 : 0 ≤ z ∧ z < len)
    (kk : AW G d mc ms M X F k n pc' L (.int (J (m q z)) :: st) (wd G m)) : AW G d mc ms M X F k n pc L (.int (J z) :: .ref (G.2.2.2 q) :: st) (wd G m) := by
  refine x_zald hi hp (wd_get hs) h0.1 h0.2 hlen ?_
  show AW G d mc ms M X F k n pc' L (.int (J (m q (z.toNat : Int))) :: st) (wd G m)
  rw [Int.toNat_of_nonneg h0.1]
  exact kk
theorem upd_J {r : Row} {z v : Int} (h0 : 0 ≤ z) : upd (fun j => J (r j)) z.toNat (J v) = fun j : Nat => J (ur r z v j) := by
  funext j
  unfold upd ur
  by_cases hj : j = z.toNat
  · rw [if_pos hj, if_pos (by omega)]
  · rw [if_neg hj, if_neg (by omega)]
theorem m_iast {q len : Nat} {z v : Int} (hi : M.2.2.2.2[i]? = some (pc, .iastore, 1)) (hp : pc + 1 = pc') (hs : (shp G)[q]? = some (sA G len)) (hlen : len < 2147483648) (h0 : 0 ≤ z ∧ z < len)
    (kk : AW G d mc ms M X F k n pc' L st (wd G (stm m q z v))) : AW G d mc ms M X F k n pc L (.int (J v) :: .int (J z) :: .ref (G.2.2.2 q) :: st) (wd G m) := by
  refine x_iast hi hp (wd_get hs) h0.1 h0.2 hlen ?_
  rw [upd_J h0.1]
  have := wd_set (m := m) hs (ur (m q) z v)
  unfold sA at this
  rw [this]
  exact kk
theorem m_zast {q len : Nat} {z v : Int} (hi : M.2.2.2.2[i]? = some (pc, .bastore, 1)) (hp : pc + 1 = pc') (hs : (shp G)[q]? = some (sZ G len)) (hlen : len < 2147483648) (h0 : 0 ≤ z ∧ z < len) (hv : v = 0 ∨ v = 1)
    (kk : AW G d mc ms M X F k n pc' L st (wd G (stm m q z v))) : AW G d mc ms M X F k n pc L (.int (J v) :: .int (J z) :: .ref (G.2.2.2 q) :: st) (wd G m) := by
  refine x_zast hi hp (wd_get hs) h0.1 h0.2 hlen hv ?_
  rw [upd_J h0.1]
  have := wd_set (m := m) hs (ur (m q) z v)
  unfold sZ at this
  rw [this]
  exact kk
theorem m_alen {q len : Nat} (hi : M.2.2.2.2[i]? = some (pc, .arraylength, 1)) (hp : pc + 1 = pc') (hs : (shp G)[q]? = some (sA G len))
    (kk : AW G d mc ms M X F k n pc' L (.int (J len) :: st) (wd G m)) : AW G d mc ms M X F k n pc L (.ref (G.2.2.2 q) :: st) (wd G m) :=
  x_alen (t0 := 0) hi hp (wd_get hs) rfl kk
theorem m_aald {z : Int} {v : Nat} (hi : M.2.2.2.2[i]? = some (pc, .aaload, 1)) (hp : pc + 1 = pc') (h0 : 0 ≤ z ∧ z < 6) (hv : v = 10 + 7 * z.toNat)
    (kk : AW G d mc ms M X F k n pc' L (.ref (G.2.2.2 v) :: st) (wd G m)) : AW G d mc ms M X F k n pc L (.int (J z) :: .ref (G.2.2.2 9) :: st) (wd G m) := by
  refine x_aald (v := G.2.2.2 v) hi hp (wd_get (sh9 G)) h0.1 (show z < (6 : Nat) by omega) (by decide) ?_ kk
  subst hv
  rcases (by omega : z.toNat = 0 ∨ z.toNat = 1 ∨ z.toNat = 2 ∨ z.toNat = 3 ∨ z.toNat = 4 ∨ z.toNat = 5) with h | h | h | h | h | h <;> rw [h] <;> rfl
theorem m_callV {idx q ci np d' : Nat} {N : MM} {r0 : vw_C} {f : Row → va_E} {fs : List Value} {av rest : List Value} (hi : M.2.2.2.2[i]? = some (pc, .invokevirtual idx, 3)) (hp : pc + 3 = pc') (hd : d' + 1 ≤ d) (hm : MV M.1.cls idx N np) (hs : (shp G)[q]? = some f) (ho : f (m q) = .inr (ci, fs)) (hcl : classes[ci]? = some r0) (hcn : r0.1 = N.1.cls) (hn : av.length = np) (hst : st = av.reverse ++ .ref (G.2.2.2 q) :: rest) (hroom : (rest.map fun v => v.category).sum ≤ 8) (hk : k ≤ mc) (hn2 : n ≤ ms)
    (kk : CM G d' N (.ref (G.2.2.2 q) :: av) m (fun r m' => AW G d mc ms M X F k n pc' L (psh r rest) (wd G m'))) : AW G d mc ms M X F k n pc L st (wd G m) :=
  x_callV hi hp hd hm (by rw [wd_get hs, ho]) hcl hcn hn hst hroom hk hn2 kk (fun r ws' h => by obtain ⟨m', rfl, h⟩ := h; exact h)
theorem m_callS {idx np d' : Nat} {N : MM} {av rest : List Value} (hi : M.2.2.2.2[i]? = some (pc, .invokestatic idx, 3)) (hp : pc + 3 = pc') (hd : d' + 1 ≤ d) (hm : MS M.1.cls idx N np) (hn : av.length = np) (hst : st = av.reverse ++ rest) (hroom : (rest.map fun v => v.category).sum ≤ 8) (hk : k ≤ mc) (hn2 : n ≤ ms)
    (kk : CM G d' N av m (fun r m' => AW G d mc ms M X F k n pc' L (psh r rest) (wd G m'))) : AW G d mc ms M X F k n pc L st (wd G m) :=
  x_callS hi hp hd hm hn hst hroom hk hn2 kk (fun r ws' h => by obtain ⟨m', rfl, h⟩ := h; exact h)
theorem m_ireturn {Q : Option Value → Mem → Prop} {x : Int32} (hi : M.2.2.2.2[i]? = some (pc, .ireturn, 1)) (hr : M.2.2.2.1 = some .int) (hq : Q (some (.int x)) m) : AW G d 0 0 M XT (mF G 0 0 (Qm G Q)) 0 0 pc L [.int x] (wd G m) := x_ireturn hi hr (Nat.le_refl _) (Nat.le_refl _) ⟨m, rfl, hq⟩
theorem m_zreturn {Q : Option Value → Mem → Prop} {z : Int} (hi : M.2.2.2.2[i]? = some (pc, .ireturn, 1)) (hr : M.2.2.2.1 = some .boolean) (hz : z = 0 ∨ z = 1) (hq : Q (some (.int (J z))) m) : AW G d 0 0 M XT (mF G 0 0 (Qm G Q)) 0 0 pc L [.int (J z)] (wd G m) := x_zreturn hi hr (Nat.le_refl _) (Nat.le_refl _) hz ⟨m, rfl, hq⟩
theorem m_lreturn {Q : Option Value → Mem → Prop} {x : Int64} (hi : M.2.2.2.2[i]? = some (pc, .lreturn, 1)) (hr : M.2.2.2.1 = some .long) (hq : Q (some (.long x)) m) : AW G d 0 0 M XT (mF G 0 0 (Qm G Q)) 0 0 pc L [.long x] (wd G m) := x_lreturn hi hr (Nat.le_refl _) (Nat.le_refl _) ⟨m, rfl, hq⟩
theorem m_return {Q : Option Value → Mem → Prop} (hi : M.2.2.2.2[i]? = some (pc, .return_, 1)) (hr : M.2.2.2.1 = none) (hq : Q none m) : AW G d 0 0 M XT (mF G 0 0 (Qm G Q)) 0 0 pc L [] (wd G m) := x_return hi hr (Nat.le_refl _) (Nat.le_refl _) ⟨m, rfl, hq⟩
def cpr (f g : Row) (sp dp n : Int) : Row := fun j => if dp ≤ j ∧ j < dp + n then f (sp + (j - dp)) else g j
theorem m_copy {idx q0 q1 n0 n1 : Nat} {sp dp z : Int} (hi : M.2.2.2.2[i]? = some (pc, .invokestatic idx, 3)) (hp : pc + 3 = pc') (hd : 1 ≤ d) (hlk : Cond.methodLink M.1.cls idx arraycopyName ∈ lw_tbl) (hs0 : (shp G)[q0]? = some (sA G n0)) (hs1 : (shp G)[q1]? = some (sA G n1)) (hl0 : n0 < 2147483648) (hl1 : n1 < 2147483648) (h1 : 0 ≤ sp) (h2 : 0 ≤ dp) (h3 : 0 ≤ z) (h4 : sp + z ≤ n0) (h5 : dp + z ≤ n1) (hroom : (st.map fun v => v.category).sum ≤ 8) (w1 : Cond.native arraycopyName ∈ lw_tbl) (w2 : Cond.static arraycopyName ∈ lw_tbl) (w3 : Cond.initialized "java/lang/System" ∈ lw_tbl)
    (kk : AW G d mc ms M X F k n pc' L st (wd G (sr m q1 (cpr (m q0) (m q1) sp dp z)))) : AW G d mc ms M X F k n pc L (.int (J z) :: .int (J dp) :: .ref (G.2.2.2 q1) :: .int (J sp) :: .ref (G.2.2.2 q0) :: st) (wd G m) := by
  subst hp
  intro p e R s m' args below meth c H locs A ls hc hP hD hS hl
  have hT := hc.2.1.2.2.1
  have hR := hc.2.2.1.2.1
  have nn : ∀ y : Int, 0 ≤ y → y < 2147483648 → ¬ J y < 0 := fun y a b => by rw [← J_0, J_lt ⟨by omega, b⟩ rg_0]; omega
  refine va_copyi hc.1.1 hc.1.2.1 (hc.1.2.2.2.1.trans hl.1.symm) hc.1.2.2.2.2 (hT.use hlk rfl rfl) (hT.use w1 rfl rfl) (hT.use w2 rfl rfl) (hT.use w3 rfl rfl) hc.2.1.2.2.2.1 hP hD hS q0 q1 0 0 (wd_get hs0) (wd_get hs1) rfl rfl rfl (nn _ h1 (by omega)) (nn _ h2 (by omega)) (nn _ h3 (by omega)) ?_ ?_ (fun _ _ => rfl) (Nat.le_trans hd hc.2.2.1.1) ?_ (hc.dec hi) (fun H1 locs1 hP1 hD1 hS1 => ?_)
  · rw [J_cl h1 (by omega), J_cl h3 (by omega)]; omega
  · rw [J_cl h2 (by omega), J_cl h3 (by omega)]; omega
  · have : nativeFrameWords "java/lang/System" "arraycopy" 5 + 11 ≤ 32 := by decide
    omega
  · have e1 : va_cpy (fun j : Nat => J (m q0 j)) (fun j : Nat => J (m q1 j)) (J sp).toNatClampNeg (J dp).toNatClampNeg (J z).toNatClampNeg = fun j : Nat => J (cpr (m q0) (m q1) sp dp z j) := by
      rw [J_cl h1 (by omega), J_cl h2 (by omega), J_cl h3 (by omega)]
      funext j
      unfold va_cpy cpr
      by_cases hj : dp.toNat ≤ j ∧ j < dp.toNat + z.toNat
      · rw [if_pos hj, if_pos (by omega)]
        have e3 : ((sp.toNat + (j - dp.toNat) : Nat) : Int) = sp + ((j : Int) - dp) := by omega
        show J (m q0 ((sp.toNat + (j - dp.toNat) : Nat) : Int)) = _
        rw [e3]
      · rw [if_neg hj, if_neg (by omega)]
    rw [e1] at hP1 hD1
    have e2 := wd_set (m := m) hs1 (cpr (m q0) (m q1) sp dp z)
    unfold sA at e2
    rw [e2] at hP1 hD1
    exact kk p e R s m' args below meth c H1 locs1 A ls hc hP1 hD1 hS1 hl
end BWM
