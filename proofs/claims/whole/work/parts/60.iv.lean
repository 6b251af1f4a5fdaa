/-! ===== the two sides hold the same: what stands between the calls ===== -/
theorem its {f : Int → Mem → Mem} {q : Nat} {a b : Int} (hf : ∀ i x, f i x = stm x q (b + i) (x q (a + i))) (m : Mem) (j0 : Int) (n : Nat) (hab : b ≤ a ∨ a + j0 + n ≤ b + j0) (j : Int) : it f j0 n m q j = if b + j0 ≤ j ∧ j < b + j0 + n then m q (a + (j - b)) else m q j := by
  have h : ∀ j, it f j0 n m q j = if b + j0 ≤ j ∧ j < b + (j0 + n) then m q (a + (j - b)) else m q j := it_Ij (f := f) (fun k x => ∀ j, x q j = if b + j0 ≤ j ∧ j < b + k then m q (a + (j - b)) else m q j) n j0 m (fun k x h1 h2 hx j => by
    rw [hf]
    by_cases hj : j = b + k
    · rw [hj, stm_eq, hx, if_neg (by omega), if_pos (by omega)]
      rw [show a + (b + k - b) = a + k by omega]
    · rw [stm_ix _ _ _ hj, hx]
      by_cases hc : b + j0 ≤ j ∧ j < b + k
      · rw [if_pos hc, if_pos (by omega)]
      · rw [if_neg hc, if_neg (by omega)]) (fun j => by rw [if_neg (by omega)])
  rw [h j]
  by_cases hc : b + j0 ≤ j ∧ j < b + j0 + n
  · rw [if_pos hc, if_pos (by omega)]
  · rw [if_neg hc, if_neg (by omega)]
theorem mcp_at (m : Mem) {a b : Int} (hab : b ≤ a ∨ a + 140 ≤ b) (j : Int) : mcp m a b 77 j = if b ≤ j ∧ j < b + 140 then m 77 (a + (j - b)) else m 77 j := by
  have h := its (f := fun k (x : Mem) => stm x 77 (b + k) (x 77 (a + k))) (q := 77) (a := a) (b := b) (fun i x => rfl) m 0 140 (by omega) j
  unfold mcp
  rw [h]
  by_cases hc : b ≤ j ∧ j < b + 140
  · rw [if_pos hc, if_pos (by omega)]
  · rw [if_neg hc, if_neg (by omega)]
theorem md0_at (m : Mem) (j : Int) : md0 m 77 j = if 140 ≤ j ∧ j < 700 then m 77 (j + 140) else m 77 j := by
  have h := its (f := fun k (x : Mem) => stm x 77 (140 + k) (x 77 (280 + k))) (q := 77) (a := 280) (b := 140) (fun i x => rfl) m 0 560 (by omega) j
  unfold md0
  rw [h]
  by_cases hc : 140 ≤ j ∧ j < 700
  · rw [if_pos hc, if_pos (by omega), show 280 + (j - 140) = j + 140 by omega]
  · rw [if_neg hc, if_neg (by omega)]
theorem md1_1 {m : Mem} : md1 m 76 1 = if m 76 1 = 5 then 4 else m 76 1 := by
  unfold md1
  split
  · next h => rw [stm_eq, md0_ne _ (by decide), h]; rfl
  · rfl
theorem md1_at (m : Mem) (j : Int) : md1 m 77 j = if m 76 1 = 5 then md0 m 77 j else m 77 j := by
  unfold md1
  split
  · rw [stm_ne _ _ _ (by decide)]
  · rfl
theorem mdm_1 {m : Mem} (hs : ST m) : mdm m 76 1 = mn (m 76 1 + 1) 5 := by
  have h0 := hs.1; have h1 := hs.2
  unfold mdm
  rw [stm_eq, mcp_ne _ _ _ (by decide), md1_1]
  unfold mn
  (repeat' split) <;> omega
theorem mdm_at {m : Mem} (hs : ST m) (j : Int) : mdm m 77 j = if 140 + 140 * md1 m 76 1 ≤ j ∧ j < 280 + 140 * md1 m 76 1 then md1 m 77 (j - (140 + 140 * md1 m 76 1)) else md1 m 77 j := by
  have h := md1_st hs
  unfold mdm
  rw [stm_ne _ _ _ (by decide), mcp_at _ (by omega)]
  by_cases hc : 140 + 140 * md1 m 76 1 ≤ j ∧ j < 280 + 140 * md1 m 76 1
  · rw [if_pos hc, if_pos (by omega), Int.zero_add]
  · rw [if_neg hc, if_neg (by omega)]
theorem mdm_new {m : Mem} (hs : ST m) {i : Int} (h0 : 0 ≤ i) (h1 : i < 140) : mdm m 77 (140 + 140 * (mdm m 76 1 - 1) + i) = m 77 i := by
  have s0 := hs.1; have s1 := hs.2
  have e : mdm m 76 1 - 1 = md1 m 76 1 := by
    rw [mdm_1 hs, md1_1]
    unfold mn
    (repeat' split) <;> omega
  have hb := md1_st hs
  rw [e, mdm_at hs, if_pos (by omega), show 140 + 140 * md1 m 76 1 + i - (140 + 140 * md1 m 76 1) = i by omega, md1_lo m h1]
theorem mdm_old {m : Mem} (hs : ST m) {c i : Int} (hc : 1 ≤ c) (hc2 : c < mdm m 76 1) (h0 : 0 ≤ i) (h1 : i < 140) : mdm m 77 (140 + 140 * (mdm m 76 1 - 1 - c) + i) = m 77 (140 + 140 * (m 76 1 - c) + i) := by
  have s0 := hs.1; have s1 := hs.2
  have e : mdm m 76 1 - 1 = md1 m 76 1 := by
    rw [mdm_1 hs, md1_1]
    unfold mn
    (repeat' split) <;> omega
  have hb := md1_st hs
  rw [mdm_at hs, if_neg (by omega), md1_at]
  have e2 := md1_1 (m := m)
  by_cases h5 : m 76 1 = 5
  · rw [if_pos h5] at e2 ⊢
    rw [md0_at, if_pos (by omega)]
    exact congrArg (m 77) (by omega)
  · rw [if_neg h5] at e2 ⊢
    exact congrArg (m 77) (by omega)
def prm (p : Row) : Prop := (∀ s, 0 ≤ s → s ≤ 5 → 0 ≤ p s ∧ p s ≤ 5) ∧ (∀ s t, 0 ≤ s → s ≤ 5 → 0 ≤ t → t ≤ 5 → p s = p t → s = t) ∧ (∀ v, 0 ≤ v → v ≤ 5 → ∃ s, 0 ≤ s ∧ s ≤ 5 ∧ p s = v)
def ok_ (n : Int) (t w : Row) (c : Int) (s p : Row) : Prop :=
  (0 ≤ n ∧ n ≤ 16) ∧ (0 ≤ c ∧ c ≤ 16) ∧ (∀ k j, 0 ≤ k → k < n → 0 ≤ j → j ≤ 3 → 0 ≤ t (k * 5 + j) ∧ t (k * 5 + j) ≤ 7) ∧ (∀ k, 0 ≤ k → k < n → 0 ≤ t (k * 5 + 4) ∧ t (k * 5 + 4) ≤ 3) ∧ (∀ j, 0 ≤ j → j ≤ 3 → 0 ≤ w j ∧ w j ≤ 5) ∧ (∀ i, 0 ≤ i → i < c → (0 ≤ s (i * 3 + 0) ∧ s (i * 3 + 0) < n) ∧ (-1 ≤ s (i * 3 + 1) ∧ s (i * 3 + 1) ≤ 5) ∧ (-1 ≤ s (i * 3 + 2) ∧ s (i * 3 + 2) ≤ 5)) ∧ prm p
def eqv (n : Int) (t w : Row) (c : Int) (s p r : Row) (o : Int) : Prop :=
  n = r o ∧ c = r (o + 1) ∧ (∀ k j, 0 ≤ k → k < n → 0 ≤ j → j ≤ 4 → t (k * 5 + j) = r (o + (2 + 5 * k + j))) ∧ (∀ i j, 0 ≤ i → i < c → 0 ≤ j → j ≤ 2 → s (i * 3 + j) = r (o + (82 + 3 * i + j))) ∧ (∀ j, 0 ≤ j → j ≤ 3 → w j = r (o + (130 + j))) ∧ (∀ j, 0 ≤ j → j ≤ 5 → p j = r (o + (134 + j)))
theorem prm.cg {p p' : Row} (h : prm p) (hp : ∀ i, 0 ≤ i → i ≤ 5 → p' i = p i) : prm p' := by
  refine ⟨fun s a b => by rw [hp s a b]; exact h.1 s a b, fun s t a b c d e => h.2.1 s t a b c d (by rw [← hp s a b, ← hp t c d]; exact e), fun v a b => ?_⟩
  obtain ⟨s, s0, s1, s2⟩ := h.2.2 v a b
  exact ⟨s, s0, s1, by rw [hp s s0 s1]; exact s2⟩
theorem ok_.cg {n c : Int} {t w s p t' w' s' p' : Row} (h : ok_ n t w c s p) (ht : ∀ i, 0 ≤ i → i < 80 → t' i = t i) (hw : ∀ i, 0 ≤ i → i ≤ 3 → w' i = w i) (hs : ∀ i, 0 ≤ i → i < 48 → s' i = s i) (hp : ∀ i, 0 ≤ i → i ≤ 5 → p' i = p i) : ok_ n t' w' c s' p' := by
  obtain ⟨h1, h2, h3, h4, h5, h6, h7⟩ := h
  refine ⟨h1, h2, fun k j a b d e => by rw [ht _ (by omega) (by omega)]; exact h3 k j a b d e, fun k a b => by rw [ht _ (by omega) (by omega)]; exact h4 k a b, fun j a b => by rw [hw j a b]; exact h5 j a b, fun i a b => by rw [hs _ (by omega) (by omega), hs _ (by omega) (by omega), hs _ (by omega) (by omega)]; exact h6 i a b, h7.cg hp⟩
theorem eqv.cg {n c o o' : Int} {t w s p t' w' s' p' r r' : Row} (h : eqv n t w c s p r o) (hn : 0 ≤ n ∧ n ≤ 16) (hc : 0 ≤ c ∧ c ≤ 16) (ht : ∀ i, 0 ≤ i → i < 80 → t' i = t i) (hw : ∀ i, 0 ≤ i → i ≤ 3 → w' i = w i) (hs : ∀ i, 0 ≤ i → i < 48 → s' i = s i) (hp : ∀ i, 0 ≤ i → i ≤ 5 → p' i = p i) (hr : ∀ i, 0 ≤ i → i < 140 → r' (o' + i) = r (o + i)) : eqv n t' w' c s' p' r' o' := by
  obtain ⟨h1, h2, h3, h4, h5, h6⟩ := h
  refine ⟨?_, ?_, fun k j a b d e => ?_, fun i j a b d e => ?_, fun j a b => ?_, fun j a b => ?_⟩
  · have := hr 0 (by omega) (by omega); rw [Int.add_zero, Int.add_zero] at this; rw [this]; exact h1
  · rw [hr 1 (by omega) (by omega)]; exact h2
  · rw [ht _ (by omega) (by omega), hr _ (by omega) (by omega)]; exact h3 k j a b d e
  · rw [hs _ (by omega) (by omega), hr _ (by omega) (by omega)]; exact h4 i j a b d e
  · rw [hw _ a b, hr _ (by omega) (by omega)]; exact h5 j a b
  · rw [hp _ a b, hr _ (by omega) (by omega)]; exact h6 j a b
def okm (m : Mem) (b : Nat) : Prop := ok_ (m (b + 1) 2) (m (b + 2)) (m (b + 3)) (m (b + 4) 1) (m (b + 5)) (m (b + 6))
def eqm (m : Mem) (b : Nat) (r : Row) (o : Int) : Prop := eqv (m (b + 1) 2) (m (b + 2)) (m (b + 3)) (m (b + 4) 1) (m (b + 5)) (m (b + 6)) r o
theorem cps_at (m : Mem) {d s : Nat} (h : d + 6 < s + 1 ∨ s + 6 < d + 1) : cps m d s (d + 1) 2 = m (s + 1) 2 ∧ cps m d s (d + 4) 1 = m (s + 4) 1 ∧ (∀ i, 0 ≤ i → i < 85 → cps m d s (d + 2) i = m (s + 2) i) ∧ (∀ i, 0 ≤ i → i < 4 → cps m d s (d + 3) i = m (s + 3) i) ∧ (∀ i, 0 ≤ i → i < 48 → cps m d s (d + 5) i = m (s + 5) i) ∧ (∀ i, 0 ≤ i → i < 6 → cps m d s (d + 6) i = m (s + 6) i) := by
  have hc : ∀ (f g : Row) (n i : Int), 0 ≤ i → i < n → cpr f g 0 0 n i = f i := fun f g n i a b => by
    unfold cpr
    rw [if_pos (by omega), show 0 + (i - 0) = i by omega]
  unfold cps
  try dsimp only
  refine ⟨?_, ?_, fun i a b => ?_, fun i a b => ?_, fun i a b => ?_, fun i a b => ?_⟩
  · rw [sr_ne _ _ (by omega), stm_ne _ _ _ (by omega), sr_ne _ _ (by omega), stm_eq, sr_ne _ _ (by omega), sr_ne _ _ (by omega)]
  · rw [sr_ne _ _ (by omega), stm_eq, sr_ne _ _ (by omega), stm_ne _ _ _ (by omega), sr_ne _ _ (by omega), sr_ne _ _ (by omega)]
  · rw [sr_ne _ _ (by omega), stm_ne _ _ _ (by omega), sr_ne _ _ (by omega), stm_ne _ _ _ (by omega), sr_ne _ _ (by omega), sr_eq, hc _ _ _ _ a b]
  · rw [sr_ne _ _ (by omega), stm_ne _ _ _ (by omega), sr_ne _ _ (by omega), stm_ne _ _ _ (by omega), sr_eq, hc _ _ _ _ a b, sr_ne _ _ (by omega)]
  · rw [sr_ne _ _ (by omega), stm_ne _ _ _ (by omega), sr_eq, hc _ _ _ _ a b, stm_ne _ _ _ (by omega), sr_ne _ _ (by omega), sr_ne _ _ (by omega)]
  · rw [sr_eq, hc _ _ _ _ a b, stm_ne _ _ _ (by omega), sr_ne _ _ (by omega), stm_ne _ _ _ (by omega), sr_ne _ _ (by omega), sr_ne _ _ (by omega)]
theorem cps_ok {m : Mem} {d s : Nat} (h : d + 6 < s + 1 ∨ s + 6 < d + 1) (ho : okm m s) : okm (cps m d s) d := by
  obtain ⟨a1, a2, a3, a4, a5, a6⟩ := cps_at m h
  unfold okm
  rw [a1, a2]
  exact ok_.cg ho (fun i a b => a3 i a (by omega)) (fun i a b => a4 i a (by omega)) a5 (fun i a b => a6 i a (by omega))
theorem cps_eq {m : Mem} {d s : Nat} (h : d + 6 < s + 1 ∨ s + 6 < d + 1) (ho : okm m s) {r r' : Row} {o o' : Int} (he : eqm m s r o) (hr : ∀ i, 0 ≤ i → i < 140 → r' (o' + i) = r (o + i)) : eqm (cps m d s) d r' o' := by
  obtain ⟨a1, a2, a3, a4, a5, a6⟩ := cps_at m h
  unfold eqm
  rw [a1, a2]
  exact eqv.cg he ho.1 ho.2.1 (fun i a b => a3 i a (by omega)) (fun i a b => a4 i a (by omega)) a5 (fun i a b => a6 i a (by omega)) hr
theorem okm.cg {m m' : Mem} {b b' : Nat} (h : okm m b) (hq : ∀ j : Nat, 1 ≤ j → j ≤ 6 → m' (b' + j) = m (b + j)) : okm m' b' := by
  unfold okm
  rw [hq 1 (by omega) (by omega), hq 2 (by omega) (by omega), hq 3 (by omega) (by omega), hq 4 (by omega) (by omega), hq 5 (by omega) (by omega), hq 6 (by omega) (by omega)]
  exact h
theorem eqm.cg {m m' : Mem} {b b' : Nat} {r r' : Row} {o o' : Int} (h : eqm m b r o) (ho : okm m b) (hq : ∀ j : Nat, 1 ≤ j → j ≤ 6 → m' (b' + j) = m (b + j)) (hr : ∀ i, 0 ≤ i → i < 140 → r' (o' + i) = r (o + i)) : eqm m' b' r' o' := by
  unfold eqm
  rw [hq 1 (by omega) (by omega), hq 2 (by omega) (by omega), hq 3 (by omega) (by omega), hq 4 (by omega) (by omega), hq 5 (by omega) (by omega), hq 6 (by omega) (by omega)]
  exact eqv.cg h ho.1 ho.2.1 (fun _ _ _ => rfl) (fun _ _ _ => rfl) (fun _ _ _ => rfl) (fun _ _ _ => rfl) hr
def sl (x i : Int) : Nat := 10 + 7 * ((x + 5 - i) % 6).toNat
def hst (m : Mem) : Prop := PX m ∧ m 76 1 = m 8 2 ∧ ∀ i, 0 ≤ i → i < m 8 2 → okm m (sl (m 8 1) i) ∧ eqm m (sl (m 8 1) i) (m 77) (140 + 140 * (m 8 2 - 1 - i))
theorem hst.st {m : Mem} (h : hst m) : ST m := by
  unfold ST
  rw [h.2.1]
  exact h.1.2
theorem hst_stay {m m' : Mem} (h : hst m) (h8 : m' 8 = m 8) (h76 : m' 76 1 = m 76 1) (hq : ∀ q : Nat, 10 ≤ q → q ≤ 51 → (q < 10 + 7 * (m 8 1).toNat ∨ 10 + 7 * (m 8 1).toNat + 6 < q) → m' q = m q) (hr : ∀ i, 140 ≤ i → i < 840 → m' 77 i = m 77 i) : hst m' := by
  obtain ⟨hp, h1, h2⟩ := h
  have p1 := hp.1; have p2 := hp.2
  refine ⟨px_of h8 hp, by rw [h76, h8]; exact h1, fun i a b => ?_⟩
  rw [h8] at b ⊢
  obtain ⟨o, e⟩ := h2 i a b
  have hq2 : ∀ j : Nat, 1 ≤ j → j ≤ 6 → m' (sl (m 8 1) i + j) = m (sl (m 8 1) i + j) := fun j j1 j2 => hq _ (by unfold sl; omega) (by unfold sl; omega) (by unfold sl; omega)
  exact ⟨o.cg hq2, e.cg o hq2 (fun k k0 k1 => hr _ (by omega) (by omega))⟩
theorem hst_push {m m' : Mem} (h : hst m) (ho : okm m 1) (he : eqm m 1 (m 77) 0) (h81 : m' 8 1 = (m 8 1 + 1) % 6) (h82 : m' 8 2 = mn (m 8 2 + 1) 5) (h76 : m' 76 1 = mdm m 76 1) (hq : ∀ q : Nat, 10 ≤ q → q ≤ 51 → m' q = stg m q) (hr : ∀ i, 140 ≤ i → i < 840 → m' 77 i = mdm m 77 i) : hst m' := by
  have hs := h.st
  obtain ⟨hp, h1, h2⟩ := h
  have p1 := hp.1; have p2 := hp.2
  have hn : mdm m 76 1 = mn (m 8 2 + 1) 5 := by rw [mdm_1 hs, h1]
  have hb : 1 ≤ mn (m 8 2 + 1) 5 ∧ mn (m 8 2 + 1) 5 ≤ 5 ∧ mn (m 8 2 + 1) 5 ≤ m 8 2 + 1 := by unfold mn; split <;> omega
  refine ⟨⟨by rw [h81]; omega, by rw [h82]; omega⟩, by rw [h76, h82, hn], fun i a b => ?_⟩
  rw [h82] at b ⊢
  rw [h81]
  by_cases hi : i = 0
  · have e1 : sl ((m 8 1 + 1) % 6) i = 10 + 7 * (m 8 1).toNat := by unfold sl; omega
    rw [e1, hi]
    have e2 : ∀ j : Nat, 1 ≤ j → j ≤ 6 → m' (10 + 7 * (m 8 1).toNat + j) = stg m (10 + 7 * (m 8 1).toNat + j) := fun j j1 j2 => hq _ (by omega) (by omega)
    have d : 10 + 7 * (m 8 1).toNat + 6 < 1 + 1 ∨ 1 + 6 < 10 + 7 * (m 8 1).toNat + 1 := by omega
    have o1 : okm (stg m) (10 + 7 * (m 8 1).toNat) := cps_ok d ho
    have o2 : eqm (stg m) (10 + 7 * (m 8 1).toNat) (mdm m 77) (140 + 140 * (mdm m 76 1 - 1)) := cps_eq d ho he (fun k k0 k1 => by rw [mdm_new hs k0 k1, Int.zero_add])
    refine ⟨o1.cg e2, o2.cg o1 e2 (fun k k0 k1 => ?_)⟩
    rw [hn, show mn (m 8 2 + 1) 5 - 1 - 0 = mn (m 8 2 + 1) 5 - 1 by omega]
    exact hr _ (by omega) (by omega)
  · have e1 : sl ((m 8 1 + 1) % 6) i = sl (m 8 1) (i - 1) := by unfold sl; omega
    rw [e1]
    obtain ⟨o, e⟩ := h2 (i - 1) (by omega) (by omega)
    have hq2 : ∀ j : Nat, 1 ≤ j → j ≤ 6 → m' (sl (m 8 1) (i - 1) + j) = m (sl (m 8 1) (i - 1) + j) := fun j j1 j2 => by
      rw [hq _ (by unfold sl; omega) (by unfold sl; omega)]
      exact cps_ne m _ _ (by unfold sl; omega)
    refine ⟨o.cg hq2, e.cg o hq2 (fun k k0 k1 => ?_)⟩
    rw [hr _ (by omega) (by omega)]
    have := mdm_old hs (c := i) (i := k) (by omega) (by rw [hn]; exact b) k0 k1
    rw [hn, h1] at this
    rw [this]
    exact congrArg (m 77) (by omega)
def INV (e : Int) (m : Mem) : Prop := MR m ∧ okm m 1 ∧ eqm m 1 (m 77) 0 ∧ hst m ∧ ((0 ≤ m 52 1 ∧ m 52 1 ≤ 120) ∧ m 76 4 = m 52 1 ∧ ∀ i, 0 ≤ i → i < m 52 1 → m 79 i = m 53 i) ∧ TRL m ∧ (e ≤ 512 ∧ ∀ i, 0 ≤ i → i ≤ 2 → m 78 i = m 75 i ∧ (0 ≤ m 75 i ∧ m 75 i ≤ e))
theorem okm.gi {m : Mem} (h : okm m 1) : CN m ∧ SN m ∧ RVs m ∧ SRT m ∧ WT m ∧ WDF m ∧ POS m := by
  obtain ⟨h1, h2, h3, h4, h5, h6, h7⟩ := h
  exact ⟨h1, h2, fun k a b j c d => h3 k j a b c d, h4, h5, h6, h7.1⟩
theorem INV.gi {e : Int} {m : Mem} (h : INV e m) : GI m := by
  obtain ⟨h1, h2, h3, h4, h5, h6, h7⟩ := h
  exact ⟨h1, h2.gi, h4.1, h5.1, h6, fun i a b => by have := (h7.2 i a b).2; have := h7.1; omega⟩
/-- the current state's words, without the offset -/
def eq0 (m : Mem) : Prop := m 2 2 = m 77 0 ∧ m 5 1 = m 77 1 ∧ (∀ k j, 0 ≤ k → k < m 2 2 → 0 ≤ j → j ≤ 4 → m 3 (k * 5 + j) = m 77 (2 + 5 * k + j)) ∧ (∀ i j, 0 ≤ i → i < m 5 1 → 0 ≤ j → j ≤ 2 → m 6 (i * 3 + j) = m 77 (82 + 3 * i + j)) ∧ (∀ j, 0 ≤ j → j ≤ 3 → m 4 j = m 77 (130 + j)) ∧ (∀ j, 0 ≤ j → j ≤ 5 → m 7 j = m 77 (134 + j))
theorem eqm_0 (m : Mem) : eqm m 1 (m 77) 0 ↔ eq0 m := by
  unfold eqm eqv eq0
  simp only [Int.zero_add]
theorem eq0.gm {m : Mem} (h : eq0 m) (ho : okm m 1) : NM m ∧ CMd m ∧ PVs m ∧ SRm m ∧ WTm m ∧ WDm m ∧ POm m := by
  obtain ⟨e0, e1, e2, e3, e4, e5⟩ := h
  obtain ⟨h1, h2, h3, h4, h5, h6, h7⟩ := ho
  refine ⟨?_, ?_, fun k a b j c d => ?_, fun k a b => ?_, fun j a b => ?_, fun i a b => ?_, fun s a b => ?_⟩
  · unfold NM; rw [← e0]; exact h1
  · unfold CMd; rw [← e1]; exact h2
  · rw [← e0] at b; rw [← e2 k j a b c (by omega)]; exact h3 k j a b c d
  · rw [← e0] at b; rw [← e2 k 4 a b (by omega) (by omega)]; exact h4 k a b
  · rw [← e4 j a b]; exact h5 j a b
  · rw [← e1] at b; rw [← e0, ← e3 i 0 a b (by omega) (by omega), ← e3 i 1 a b (by omega) (by omega), ← e3 i 2 a b (by omega) (by omega)]; exact h6 i a b
  · rw [← e5 s a b]; exact h7.1 s a b
theorem INV.gm {e : Int} {m : Mem} (h : INV e m) : GM m := by
  obtain ⟨h1, h2, h3, h4, h5, h6, h7⟩ := h
  exact ⟨h1, ((eqm_0 m).mp h3).gm h2, h4.st, by rw [h5.2.1]; exact h5.1, fun i a b => by have := h7.2 i a b; have := h7.1; omega⟩
