/-! ===== the order of words ===== -/
theorem clm_mono (z : Mem) {i j : Int} (i0 : 0 ≤ i) (h : i ≤ j) : clm z i ≤ clm z j := by
  have : ∀ n : Nat, clm z i ≤ clm z (i + n) := fun n => by
    induction n with
    | zero => rw [show i + ((0 : Nat) : Int) = i by omega]; exact Int.le_refl _
    | succ n ih =>
      rw [show i + ((n + 1 : Nat) : Int) = i + n + 1 by omega, clm_s z (by omega)]
      split <;> omega
  have h2 := this (j - i).toNat
  rw [show i + ((j - i).toNat : Int) = j by omega] at h2
  exact h2
theorem clm_deed (z : Mem) {i j : Int} (i0 : 0 ≤ i) (h : i < j) (hd : swm z i = 3) : clm z i < clm z j := by
  have h1 := clm_s z i0
  rw [if_pos hd] at h1
  have := clm_mono z (i := i + 1) (j := j) (by omega) (by omega)
  omega
theorem rk_2 (z : Mem) (i : Int) : rkm z i = 2 ↔ swm z i = 3 := by unfold rkm; (repeat' split) <;> omega
theorem rk_0 (z : Mem) (i : Int) : rkm z i = 0 ↔ swm z i = 0 := by unfold rkm; (repeat' split) <;> omega
noncomputable def oth (z : Mem) (n : Int) : Int := sm (fun k => bp (clm z k = clm z n ∧ rkm z k = 1)) n.toNat
noncomputable def swi (z : Mem) (i : Int) : Int := sm (fun k => bp (clm z k = clm z i ∧ rkm z i < rkm z k)) i.toNat
theorem sm_s (g : Int → Int) {j : Int} (j0 : 0 ≤ j) : sm g (j + 1).toNat = sm g j.toNat + g j := by
  rw [show (j + 1).toNat = j.toNat + 1 by omega]
  show sm g j.toNat + g ((j.toNat : Nat) : Int) = _
  rw [Int.toNat_of_nonneg j0]
theorem swi_eq (z : Mem) {j : Int} (j0 : 0 ≤ j) : swi z j = if swm z j = 0 then oth z j else 0 := by
  unfold swi oth
  by_cases h0 : swm z j = 0
  · rw [if_pos h0]
    have hr := (rk_0 z j).mpr h0
    refine sm_cg _ (fun k k0 k1 => bp_congr ⟨fun q => ⟨q.1, ?_⟩, fun q => ⟨q.1, by omega⟩⟩)
    have hk := rkm_le z k
    have hd : ¬ rkm z k = 2 := fun e => by
      have := clm_deed z k0 (j := j) (by omega) ((rk_2 z k).mp e)
      omega
    omega
  · rw [if_neg h0]
    refine sm_0 _ (fun k k0 k1 => bp_f (fun q => ?_))
    have hr : ¬ rkm z j = 0 := fun e => h0 ((rk_0 z j).mp e)
    have hk := rkm_le z k
    have hj := rkm_le z j
    have := clm_deed z k0 (j := j) (by omega) ((rk_2 z k).mp (by omega))
    omega
theorem oth_s (z : Mem) {j : Int} (j0 : 0 ≤ j) : oth z (j + 1) = if swm z j = 3 then 0 else if swm z j = 0 then oth z j else oth z j + 1 := by
  unfold oth
  rw [sm_s _ j0, clm_s z j0]
  by_cases h3 : swm z j = 3
  · rw [if_pos h3, if_pos h3, sm_0 _ (fun k k0 k1 => bp_f (fun q => by have := clm_mono z k0 (j := j) (by omega); omega)), bp_f (fun q => by omega)]
    rfl
  · rw [if_neg h3, if_neg h3, Int.add_zero]
    by_cases h0 : swm z j = 0
    · rw [if_pos h0, bp_f (p := clm z j = clm z j ∧ rkm z j = 1) (fun q => by have := (rk_0 z j).mpr h0; omega), Int.add_zero]
    · rw [if_neg h0, bp_t (p := clm z j = clm z j ∧ rkm z j = 1) ⟨rfl, by unfold rkm; rw [if_neg h0, if_neg h3]⟩]
/-! the most words of a clause that stay -/
def kp (z : Mem) (cut i : Int) : Prop := rkm z i = 2 ∨ (i < cut ∧ rkm z i = 0) ∨ (¬ i < cut ∧ rkm z i = 1)
noncomputable def K (z : Mem) (cl cut : Int) (n : Nat) : Int := sm (fun i => bp (clm z i = cl ∧ kp z cut i)) n
def MK (z : Mem) (n : Int) (cl v : Int) : Prop := (∀ cut, 0 ≤ cut → cut ≤ n → K z cl cut n.toNat ≤ v) ∧ ∃ cut, 0 ≤ cut ∧ cut ≤ n ∧ K z cl cut n.toNat = v
theorem MK.u {z : Mem} {n cl v w : Int} (h : MK z n cl v) (h2 : MK z n cl w) : v = w := by
  obtain ⟨a1, c, c0, c1, c2⟩ := h
  obtain ⟨b1, d, d0, d1, d2⟩ := h2
  have := a1 d d0 d1
  have := b1 c c0 c1
  omega
theorem K_top (z : Mem) (cl : Int) {n : Int} (n0 : 0 ≤ n) : K z cl (n + 1) n.toNat = K z cl n n.toNat := by
  unfold K
  refine sm_cg _ (fun i i0 i1 => bp_congr ⟨fun q => ⟨q.1, ?_⟩, fun q => ⟨q.1, ?_⟩⟩)
  · have := q.2; unfold kp at this ⊢; omega
  · have := q.2; unfold kp at this ⊢; omega
theorem K_s (z : Mem) (cl cut : Int) {n : Int} (n0 : 0 ≤ n) : K z cl cut (n + 1).toNat = K z cl cut n.toNat + bp (clm z n = cl ∧ kp z cut n) := sm_s _ n0
theorem MK.other {z : Mem} {n cl v : Int} (n0 : 0 ≤ n) (hne : clm z n ≠ cl) (h : MK z n cl v) : MK z (n + 1) cl v := by
  obtain ⟨a1, c, c0, c1, c2⟩ := h
  have e : ∀ cut, K z cl cut (n + 1).toNat = K z cl cut n.toNat := fun cut => by rw [K_s z cl cut n0, bp_f (fun q => hne q.1), Int.add_zero]
  refine ⟨fun cut h0 h1 => ?_, c, c0, by omega, by rw [e]; exact c2⟩
  rw [e]
  by_cases hc : cut = n + 1
  · rw [hc, K_top z cl n0]; exact a1 n n0 (Int.le_refl _)
  · exact a1 cut h0 (by omega)
theorem MK.deed {z : Mem} {n v : Int} (n0 : 0 ≤ n) (hd : swm z n = 3) (h : MK z n (clm z n) v) : MK z (n + 1) (clm z n) (v + 1) := by
  obtain ⟨a1, c, c0, c1, c2⟩ := h
  have e : ∀ cut, K z (clm z n) cut (n + 1).toNat = K z (clm z n) cut n.toNat + 1 := fun cut => by rw [K_s z _ cut n0, bp_t (p := clm z n = clm z n ∧ kp z cut n) ⟨rfl, Or.inl ((rk_2 z n).mpr hd)⟩]
  refine ⟨fun cut h0 h1 => ?_, c, c0, by omega, by rw [e, c2]⟩
  rw [e]
  by_cases hc : cut = n + 1
  · rw [hc, K_top z _ n0]; have := a1 n n0 (Int.le_refl _); omega
  · have := a1 cut h0 (by omega); omega
theorem MK.time {z : Mem} {n v : Int} (n0 : 0 ≤ n) (hd : swm z n = 0) (h : MK z n (clm z n) v) : MK z (n + 1) (clm z n) (mx v (K z (clm z n) n n.toNat + 1)) := by
  obtain ⟨a1, c, c0, c1, c2⟩ := h
  have hr := (rk_0 z n).mpr hd
  have e1 : ∀ cut, cut ≤ n → K z (clm z n) cut (n + 1).toNat = K z (clm z n) cut n.toNat := fun cut hcut => by rw [K_s z _ cut n0, bp_f (p := clm z n = clm z n ∧ kp z cut n) (fun q => by have := q.2; unfold kp at this; omega), Int.add_zero]
  have e2 : K z (clm z n) (n + 1) (n + 1).toNat = K z (clm z n) n n.toNat + 1 := by rw [K_s z _ _ n0, bp_t (p := clm z n = clm z n ∧ kp z (n + 1) n) ⟨rfl, by unfold kp; omega⟩, K_top z _ n0]
  have hm : v ≤ mx v (K z (clm z n) n n.toNat + 1) ∧ K z (clm z n) n n.toNat + 1 ≤ mx v (K z (clm z n) n n.toNat + 1) ∧ (mx v (K z (clm z n) n n.toNat + 1) = v ∨ mx v (K z (clm z n) n n.toNat + 1) = K z (clm z n) n n.toNat + 1) := by unfold mx; split <;> omega
  refine ⟨fun cut h0 h1 => ?_, ?_⟩
  · by_cases hc : cut = n + 1
    · rw [hc, e2]; exact hm.2.1
    · rw [e1 cut (by omega)]; have := a1 cut h0 (by omega); omega
  · rcases hm.2.2 with q | q
    · exact ⟨c, c0, by omega, by rw [e1 c c1, c2, q]⟩
    · exact ⟨n + 1, by omega, by omega, by rw [e2, q]⟩
theorem MK.thing {z : Mem} {n v : Int} (n0 : 0 ≤ n) (h0' : ¬ swm z n = 0) (h3 : ¬ swm z n = 3) (h : MK z n (clm z n) v) : MK z (n + 1) (clm z n) (v + 1) := by
  obtain ⟨a1, c, c0, c1, c2⟩ := h
  have hr : rkm z n = 1 := by unfold rkm; rw [if_neg h0', if_neg h3]
  have e1 : ∀ cut, cut ≤ n → K z (clm z n) cut (n + 1).toNat = K z (clm z n) cut n.toNat + 1 := fun cut hcut => by rw [K_s z _ cut n0, bp_t (p := clm z n = clm z n ∧ kp z cut n) ⟨rfl, by unfold kp; omega⟩]
  have e2 : K z (clm z n) (n + 1) (n + 1).toNat = K z (clm z n) n n.toNat := by rw [K_s z _ _ n0, bp_f (p := clm z n = clm z n ∧ kp z (n + 1) n) (fun q => by have := q.2; unfold kp at this; omega), K_top z _ n0, Int.add_zero]
  refine ⟨fun cut h0 h1 => ?_, c, c0, by omega, by rw [e1 c c1, c2]⟩
  by_cases hc : cut = n + 1
  · rw [hc, e2]; have := a1 n n0 (Int.le_refl _); omega
  · rw [e1 cut (by omega)]; have := a1 cut h0 (by omega); omega
theorem MK.new {z : Mem} {n cl : Int} (h : ∀ i, 0 ≤ i → i < n → clm z i ≠ cl) (n0 : 0 ≤ n) : MK z n cl 0 := by
  have e : ∀ cut, K z cl cut n.toNat = 0 := fun cut => sm_0 _ (fun i i0 i1 => bp_f (fun q => h i i0 (by omega) q.1))
  exact ⟨fun cut _ _ => by rw [e]; exact Int.le_refl _, 0, Int.le_refl _, n0, e 0⟩
noncomputable def sze (z : Mem) (n : Int) : Int := sm (fun i => bp (clm z i = clm z n)) n.toNat
theorem sze_s (z : Mem) {j : Int} (j0 : 0 ≤ j) : sze z (j + 1) = if swm z j = 3 then 0 else sze z j + 1 := by
  unfold sze
  rw [sm_s _ j0, clm_s z j0]
  by_cases h3 : swm z j = 3
  · rw [if_pos h3, if_pos h3, sm_0 _ (fun k k0 k1 => bp_f (fun q => by have := clm_mono z k0 (j := j) (by omega); omega)), bp_f (fun q => by omega)]
    rfl
  · rw [if_neg h3, if_neg h3, Int.add_zero, bp_t (p := clm z j = clm z j) rfl]
/-- cut behind all words: the times stay -/
theorem K_oth (z : Mem) {n : Int} : K z (clm z n) n n.toNat = sze z n - oth z n := by
  have : K z (clm z n) n n.toNat + oth z n = sze z n := by
    unfold K oth sze
    rw [← sm_add]
    refine sm_cg _ (fun i i0 i1 => ?_)
    by_cases hc : clm z i = clm z n
    · have hk := rkm_le z i
      have hd : ¬ rkm z i = 2 := fun e => by
        have := clm_deed z i0 (j := n) (by omega) ((rk_2 z i).mp e)
        omega
      rw [bp_t hc]
      by_cases h0 : rkm z i = 0
      · rw [bp_t (p := clm z i = clm z n ∧ kp z n i) ⟨hc, by unfold kp; omega⟩, bp_f (fun q => by omega)]; rfl
      · rw [bp_f (fun q => by have := q.2; unfold kp at this; omega), bp_t (p := clm z i = clm z n ∧ rkm z i = 1) ⟨hc, by omega⟩]; rfl
    · rw [bp_f (fun q => hc q.1), bp_f (fun q => hc q.1), bp_f hc]; rfl
  omega
def CV (x z : Mem) (j : Int) (X : (Int × Int) × Mem) : Prop := SW x X.2 ∧ X.1.1 = oth z j ∧ X.2 63 0 = sm (fun i => swi z i) j.toNat ∧ (∃ kv : Int → Int, (∀ cl, 0 ≤ cl → cl ≤ clm z j → MK z j cl (kv cl)) ∧ kv (clm z j) = sze z j - X.1.2 ∧ sm kv (clm z j).toNat = j - sze z j - X.2 63 1)
theorem ck_CV {x z : Mem} (h : SE x z) {j : Int} {X : (Int × Int) × Mem} (j0 : 0 ≤ j) (j1 : j < x 5 1) (hX : CV x z j X) : CV x z (j + 1) (ck j X) := by
  obtain ⟨g1, g2, g3, kv, g4, g5, g6⟩ := hX
  have hs : sw X.2 j = swm z j := by
    rw [← q_sw h j0 j1]
    unfold sw
    rw [g1.2.2.2, g1.2.1]
  have hcl := (clm_le z j).1
  have hsw : sm (fun i => swi z i) (j + 1).toNat = sm (fun i => swi z i) j.toNat + swi z j := sm_s _ j0
  have ho := oth_s z j0
  have hz := sze_s z j0
  have hc := clm_s z j0
  have hsi := swi_eq z j0
  have hK := K_oth z (n := j)
  have up : ∀ cl, 0 ≤ cl → cl < clm z j → MK z (j + 1) cl (kv cl) := fun cl c0 c1 => (g4 cl c0 (by omega)).other j0 (by omega)
  have hcur := g4 (clm z j) hcl (Int.le_refl _)
  by_cases h3 : swm z j = 3
  · have e : ck j X = ((0, 0), stm X.2 63 1 (X.2 63 1 + X.1.2)) := by unfold ck; rw [hs, if_pos h3]
    rw [if_pos h3] at ho hz hc
    rw [if_neg (by omega)] at hsi
    rw [e]
    refine ⟨g1.st (by decide) _ _, ho.symm, ?_, fun cl => if cl < clm z j then kv cl else if cl = clm z j then kv cl + 1 else 0, fun cl c0 c1 => ?_, ?_, ?_⟩
    · dsimp only
      rw [stm_ix _ _ _ (by decide), g3, hsw, hsi, Int.add_zero]
    · dsimp only
      by_cases q1 : cl < clm z j
      · rw [if_pos q1]; exact up cl c0 q1
      · rw [if_neg q1]
        by_cases q2 : cl = clm z j
        · rw [if_pos q2, q2]; exact hcur.deed j0 h3
        · rw [if_neg q2]
          exact MK.new (fun i i0 i1 e2 => by have := clm_mono z i0 (j := j) (by omega); omega) (by omega)
    · show (if clm z (j + 1) < clm z j then _ else _) = sze z (j + 1) - 0
      rw [if_neg (by omega), if_neg (by omega), hz]; rfl
    · show _ = j + 1 - sze z (j + 1) - stm X.2 63 1 (X.2 63 1 + X.1.2) 63 1
      rw [stm_eq, hz, hc, sm_s _ hcl, if_neg (by omega), if_pos rfl, g5, sm_cg (h := kv) (clm z j).toNat (fun i i0 i1 => if_pos (by omega)), g6]
      omega
  · rw [if_neg h3] at ho hz hc
    rw [Int.add_zero] at hc
    by_cases h0 : swm z j = 0
    · have e : ck j X = ((X.1.1, mn (X.1.2 + 1) X.1.1), stm X.2 63 0 (X.2 63 0 + X.1.1)) := by unfold ck; rw [hs, if_neg h3, if_pos h0]
      rw [if_pos h0] at ho hsi
      rw [e]
      refine ⟨g1.st (by decide) _ _, by rw [ho]; exact g2, ?_, fun cl => if cl < clm z j then kv cl else mx (kv cl) (K z (clm z j) j j.toNat + 1), fun cl c0 c1 => ?_, ?_, ?_⟩
      · dsimp only
        rw [stm_eq, g3, hsw, hsi, g2]
      · dsimp only
        by_cases q1 : cl < clm z j
        · rw [if_pos q1]; exact up cl c0 q1
        · rw [if_neg q1]
          have q2 : cl = clm z j := by omega
          rw [q2]; exact hcur.time j0 h0
      · show (if clm z (j + 1) < clm z j then _ else _) = sze z (j + 1) - mn (X.1.2 + 1) X.1.1
        rw [if_neg (by omega), hc, g5, hK, hz, g2]
        unfold mx mn
        (repeat' split) <;> omega
      · show _ = j + 1 - sze z (j + 1) - stm X.2 63 0 (X.2 63 0 + X.1.1) 63 1
        rw [stm_ix _ _ _ (by decide), hz, hc, sm_cg (h := kv) (clm z j).toNat (fun i i0 i1 => if_pos (by omega)), g6]
        omega
    · have e : ck j X = ((X.1.1 + 1, X.1.2), X.2) := by unfold ck; rw [hs, if_neg h3, if_neg h0]
      rw [if_neg h0] at ho hsi
      rw [e]
      refine ⟨g1, by rw [ho]; show X.1.1 + 1 = _; rw [g2], ?_, fun cl => if cl < clm z j then kv cl else kv cl + 1, fun cl c0 c1 => ?_, ?_, ?_⟩
      · show X.2 63 0 = _
        rw [g3, hsw, hsi, Int.add_zero]
      · dsimp only
        by_cases q1 : cl < clm z j
        · rw [if_pos q1]; exact up cl c0 q1
        · rw [if_neg q1]
          have q2 : cl = clm z j := by omega
          rw [q2]; exact hcur.thing j0 h0 h3
      · show (if clm z (j + 1) < clm z j then _ else _) = sze z (j + 1) - X.1.2
        rw [if_neg (by omega), hc, g5, hz]
        omega
      · show _ = j + 1 - sze z (j + 1) - X.2 63 1
        rw [hz, hc, sm_cg (h := kv) (clm z j).toNat (fun i i0 i1 => if_pos (by omega)), g6]
        omega
theorem odd_MK {z : Mem} (hc : 0 ≤ z 77 1) (cl : Int) : MK z (z 77 1) cl (odd z cl) := by
  have e : ∀ cut, odi z cl cut = K z cl cut (z 77 1).toNat := fun cut => by
    unfold odi K odr
    rw [it_sm (fun i => if clm z i = cl ∧ (rkm z i = 2 ∨ (i < cut ∧ rkm z i = 0) ∨ (¬ i < cut ∧ rkm z i = 1)) then 1 else 0), Int.zero_add]
    refine sm_cg _ (fun i _ _ => ?_)
    by_cases hq : clm z i = cl ∧ (rkm z i = 2 ∨ (i < cut ∧ rkm z i = 0) ∨ (¬ i < cut ∧ rkm z i = 1))
    · rw [if_pos hq]; exact (bp_t hq).symm
    · rw [if_neg hq]; exact (bp_f hq).symm
  have nn : ∀ cut, 0 ≤ K z cl cut (z 77 1).toNat := fun cut => sm_nn _ (fun i _ _ => (bp_le _).1)
  have h := it_Ij (f := fun cut x => if x < odi z cl cut then odi z cl cut else x) (fun n x => 0 ≤ x ∧ (∀ cut, 0 ≤ cut → cut < n → K z cl cut (z 77 1).toNat ≤ x) ∧ (x = 0 ∨ ∃ cut, 0 ≤ cut ∧ cut ≤ z 77 1 ∧ K z cl cut (z 77 1).toNat = x)) (z 77 1 + 1).toNat 0 0 (fun n x a b hx => by
    try dsimp only
    rw [e n]
    have := nn n
    split
    · refine ⟨this, fun cut c0 c1 => ?_, Or.inr ⟨n, a, by omega, rfl⟩⟩
      by_cases hq : cut = n
      · rw [hq]; exact Int.le_refl _
      · have := hx.2.1 cut c0 (by omega); omega
    · refine ⟨hx.1, fun cut c0 c1 => ?_, hx.2.2⟩
      by_cases hq : cut = n
      · rw [hq]; omega
      · exact hx.2.1 cut c0 (by omega)) ⟨Int.le_refl _, fun cut c0 c1 => by omega, Or.inl rfl⟩
  obtain ⟨h1, h2, h3⟩ := h
  refine ⟨fun cut c0 c1 => h2 cut c0 (by omega), ?_⟩
  rcases h3 with h3 | h3
  · have q := h2 0 (by omega) (by omega)
    have := nn 0
    refine ⟨0, by omega, hc, ?_⟩
    show K z cl 0 (z 77 1).toNat = it (fun cut x => if x < odi z cl cut then odi z cl cut else x) 0 (z 77 1 + 1).toNat 0
    omega
  · exact h3
theorem q_order {x z y : Mem} (h : SE x z) (hy : SW x y) : ckm y 63 0 = soa z ∧ ckm y 63 1 = mvd z := by
  have o2 := h.1.2.1
  have e1 := h.2.2.1
  have h0 : CV x z 0 ((0, 0), stm (stm y 63 0 0) 63 1 0) := by
    refine ⟨(hy.st (by decide) _ _).st (by decide) _ _, rfl, ?_, fun _ => 0, fun cl c0 c1 => MK.new (fun i i0 i1 => by omega) (Int.le_refl _), rfl, ?_⟩
    · show stm (stm y 63 0 0) 63 1 0 63 0 = 0
      rw [stm_ix _ _ _ (by decide), stm_eq]
    · show sm (fun _ => 0) (clm z 0).toNat = 0 - sze z 0 - stm (stm y 63 0 0) 63 1 0 63 1
      rw [stm_eq]; rfl
  have ec : y 5 1 = x 5 1 := by rw [hy.2.2.1]
  have hI := it_Ij (f := fun j x => ck j x) (fun j X => CV x z j X) (x 5 1).toNat 0 ((0, 0), stm (stm y 63 0 0) 63 1 0) (fun j X a b hX => ck_CV h a (by omega) hX) h0
  rw [show 0 + ((x 5 1).toNat : Int) = x 5 1 by omega] at hI
  have hk : ckt y = it (fun j x => ck j x) 0 (x 5 1).toNat ((0, 0), stm (stm y 63 0 0) 63 1 0) := by unfold ckt; rw [ec]
  rw [← hk] at hI
  obtain ⟨g1, g2, g3, kv, g4, g5, g6⟩ := hI
  have k0 : ckm y 63 0 = (ckt y).2 63 0 := by unfold ckm; exact stm_ix _ _ _ (by decide)
  have k1 : ckm y 63 1 = (ckt y).2 63 1 + (ckt y).1.2 := by unfold ckm; exact stm_eq _ _ _ _
  refine ⟨?_, ?_⟩
  · rw [k0, g3]
    unfold soa
    rw [it_cg (g := fun i x => x + swi z i) _ _ _ (fun i v a b => by
      unfold sow sor swi
      rw [it_sm (fun k => if clm z k = clm z i ∧ rkm z i < rkm z k then 1 else 0)]
      refine congrArg _ (sm_cg _ (fun k _ _ => ?_))
      by_cases hq : clm z k = clm z i ∧ rkm z i < rkm z k
      · rw [if_pos hq]; exact (bp_t hq).symm
      · rw [if_neg hq]; exact (bp_f hq).symm), it_sm (fun i => swi z i), Int.zero_add, e1]
  · rw [k1]
    have hcl := (clm_le z (x 5 1)).1
    have hodd : ∀ cl, 0 ≤ cl → cl ≤ clm z (x 5 1) → kv cl = odd z cl := fun cl c0 c1 => by
      have q := odd_MK (z := z) (by omega) cl
      rw [← e1] at q
      exact (g4 cl c0 c1).u q
    unfold mvd cls
    rw [it_sm (fun cl => odd z cl), Int.zero_add, ← e1]
    by_cases hz : x 5 1 = 0
    · rw [if_pos hz]
      rw [hz] at g5 g6
      have s0 : sze z 0 = 0 := rfl
      have c0 : clm z 0 = 0 := rfl
      rw [c0] at g6 g5
      have g7 := hodd 0 (Int.le_refl _) hcl
      have q := (g4 0 (Int.le_refl _) hcl).u (by rw [hz]; exact MK.new (fun i i0 i1 => by omega) (Int.le_refl _))
      have t0 : sm kv (0 : Int).toNat = 0 := rfl
      have t1 : sm (fun cl => odd z cl) (0 : Int).toNat = 0 := rfl
      rw [t0, s0] at g6
      rw [t1]
      rw [s0] at g5
      omega
    · rw [if_neg hz]
      have hs := clm_s z (j := x 5 1 - 1) (by omega)
      rw [show x 5 1 - 1 + 1 = x 5 1 by omega] at hs
      by_cases h3 : swm z (x 5 1 - 1) = 3
      · rw [if_pos h3] at hs
        rw [← hs, ← sm_cg (g := kv) (h := fun cl => odd z cl) _ (fun i i0 i1 => hodd i i0 (by omega)), g6]
        have hse := sze_s z (j := x 5 1 - 1) (by omega)
        rw [show x 5 1 - 1 + 1 = x 5 1 by omega, if_pos h3] at hse
        have q := (g4 (clm z (x 5 1)) hcl (Int.le_refl _)).u (MK.new (fun i i0 i1 e2 => by have := clm_mono z i0 (j := x 5 1 - 1) (by omega); omega) (by omega))
        omega
      · rw [if_neg h3, Int.add_zero] at hs
        rw [← hs, sm_s _ hcl, ← sm_cg (g := kv) (h := fun cl => odd z cl) _ (fun i i0 i1 => hodd i i0 (by omega)), g6, ← hodd (clm z (x 5 1)) hcl (Int.le_refl _), g5]
        omega
