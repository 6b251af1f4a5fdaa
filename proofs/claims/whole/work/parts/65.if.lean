/-! ===== the states of both sides, in two memories ===== -/
theorem stm_at (m : Mem) (q : Nat) (k z j : Int) : stm m q k z q j = if j = k then z else m q j := by
  unfold stm
  rw [sr_eq]
  rfl
def EQ2 (x z : Mem) : Prop := x 2 2 = z 77 0 ∧ x 5 1 = z 77 1 ∧ (∀ k j, 0 ≤ k → k < x 2 2 → 0 ≤ j → j ≤ 4 → x 3 (k * 5 + j) = z 77 (2 + 5 * k + j)) ∧ (∀ i j, 0 ≤ i → i < x 5 1 → 0 ≤ j → j ≤ 2 → x 6 (i * 3 + j) = z 77 (82 + 3 * i + j)) ∧ (∀ j, 0 ≤ j → j ≤ 3 → x 4 j = z 77 (130 + j)) ∧ (∀ j, 0 ≤ j → j ≤ 5 → x 7 j = z 77 (134 + j))
theorem eqm_2 (x z : Mem) : eqm x 1 (z 77) 0 ↔ EQ2 x z := by
  unfold eqm eqv EQ2
  simp only [Int.zero_add]
def OK1 (x : Mem) : Prop := (0 ≤ x 2 2 ∧ x 2 2 ≤ 16) ∧ (0 ≤ x 5 1 ∧ x 5 1 ≤ 16) ∧ (∀ k j, 0 ≤ k → k < x 2 2 → 0 ≤ j → j ≤ 3 → 0 ≤ x 3 (k * 5 + j) ∧ x 3 (k * 5 + j) ≤ 7) ∧ (∀ k, 0 ≤ k → k < x 2 2 → 0 ≤ x 3 (k * 5 + 4) ∧ x 3 (k * 5 + 4) ≤ 3) ∧ (∀ j, 0 ≤ j → j ≤ 3 → 0 ≤ x 4 j ∧ x 4 j ≤ 5) ∧ (∀ i, 0 ≤ i → i < x 5 1 → (0 ≤ x 6 (i * 3 + 0) ∧ x 6 (i * 3 + 0) < x 2 2) ∧ (-1 ≤ x 6 (i * 3 + 1) ∧ x 6 (i * 3 + 1) ≤ 5) ∧ (-1 ≤ x 6 (i * 3 + 2) ∧ x 6 (i * 3 + 2) ≤ 5)) ∧ prm (x 7)
theorem okm_1 (x : Mem) : okm x 1 ↔ OK1 x := Iff.rfl
def SE (x z : Mem) : Prop := OK1 x ∧ EQ2 x z
theorem SE.cgz {x z z' : Mem} (h : SE x z) (hz : ∀ i, 0 ≤ i → i < 140 → z' 77 i = z 77 i) : SE x z' := by
  obtain ⟨ho, e0, e1, e2, e3, e4, e5⟩ := h
  have o1 := ho.1; have o2 := ho.2.1
  refine ⟨ho, ?_, ?_, fun k j a b c d => ?_, fun i j a b c d => ?_, fun j a b => ?_, fun j a b => ?_⟩
  · rw [hz _ (by omega) (by omega)]; exact e0
  · rw [hz _ (by omega) (by omega)]; exact e1
  · rw [hz _ (by omega) (by omega)]; exact e2 k j a b c d
  · rw [hz _ (by omega) (by omega)]; exact e3 i j a b c d
  · rw [hz _ (by omega) (by omega)]; exact e4 j a b
  · rw [hz _ (by omega) (by omega)]; exact e5 j a b
theorem SE.cgx {x x' z : Mem} (h : SE x z) (h2 : x' 2 2 = x 2 2) (h3 : ∀ i, i < 80 → x' 3 i = x 3 i) (h4 : x' 4 = x 4) (h5 : x' 5 1 = x 5 1) (h6 : x' 6 = x 6) (h7 : x' 7 = x 7) : SE x' z := by
  obtain ⟨⟨o1, o2, o3, o4, o5, o6, o7⟩, e0, e1, e2, e3, e4, e5⟩ := h
  refine ⟨⟨by rw [h2]; exact o1, by rw [h5]; exact o2, fun k j a b c d => ?_, fun k a b => ?_, by rw [h4]; exact o5, by rw [h5, h6, h2]; exact o6, by rw [h7]; exact o7⟩, by rw [h2]; exact e0, by rw [h5]; exact e1, fun k j a b c d => ?_, by rw [h5, h6]; exact e3, by rw [h4]; exact e4, by rw [h7]; exact e5⟩
  · rw [h2] at b; rw [h3 _ (by omega)]; exact o3 k j a b c d
  · rw [h2] at b; rw [h3 _ (by omega)]; exact o4 k a b
  · rw [h2] at b; rw [h3 _ (by omega)]; exact e2 k j a b c d
theorem df_0 (m : Mem) (a b : Int) : df m a b = 0 ↔ ∀ p, 0 ≤ p → p < 4 → m 3 (a * 5 + p) = m 3 (b * 5 + p) := by
  have h := it_Ij (f := fun p x => if m 3 (a * 5 + p) = m 3 (b * 5 + p) then x else io x (1 * 2 ^ p.toNat)) (fun i y => 0 ≤ y ∧ (y = 0 ↔ ∀ p, 0 ≤ p → p < i → m 3 (a * 5 + p) = m 3 (b * 5 + p))) 4 0 0 (fun i y c d hy => by
    try dsimp only
    split
    · next hc =>
      refine ⟨hy.1, hy.2.trans ⟨fun q p p0 p1 => ?_, fun q p p0 p1 => q p p0 (by omega)⟩⟩
      by_cases hp : p = i
      · rw [hp]; exact hc
      · exact q p p0 (by omega)
    · next hc =>
      refine ⟨io_nn _ _, fun q => ?_, fun q => absurd (q i c (by omega)) hc⟩
      exfalso
      have := (bt_io hy.1 (by have := pw3 (j := i) ⟨c, by omega⟩; omega) i).mpr (Or.inr ((bt_pw c c).mpr rfl))
      rw [q] at this
      exact bt_0 i this) ⟨Int.le_refl _, fun _ p p0 p1 => by omega, fun _ => rfl⟩
  exact h.2
theorem sgo_no (z : Mem) (h p q f b : Int) : ∀ (k : Nat) (j : Int), 0 ≤ j → (sgo z h p q f b k j = -1 ↔ ∀ i, j ≤ i → i < j + k → ¬ (¬ i = b ∧ z 77 (2 + 5 * i + 0) = h ∧ z 77 (2 + 5 * i + 1) = p ∧ z 77 (2 + 5 * i + 2) = q ∧ z 77 (2 + 5 * i + 3) = f))
  | 0, j, hj => ⟨fun _ i a b => by omega, fun _ => rfl⟩
  | k + 1, j, hj => by
    unfold sgo
    split
    · next hc => exact ⟨fun hh => by omega, fun hh => absurd hc (hh j (by omega) (by omega))⟩
    · next hc =>
      rw [sgo_no z h p q f b k (j + 1) (by omega)]
      refine ⟨fun hh i a c => ?_, fun hh i a c => hh i (by omega) (by omega)⟩
      by_cases hi : i = j
      · rw [hi]; exact hc
      · exact hh i (by omega) (by omega)
theorem he_sgo {y z : Mem} (en : y 2 2 = z 77 0) (n0 : 0 ≤ y 2 2) (et : ∀ k j, 0 ≤ k → k < y 2 2 → 0 ≤ j → j ≤ 3 → y 3 (k * 5 + j) = z 77 (2 + 5 * k + j)) {a b h p q f : Int} (r0 : y 3 (a * 5 + 0) = h) (r1 : y 3 (a * 5 + 1) = p) (r2 : y 3 (a * 5 + 2) = q) (r3 : y 3 (a * 5 + 3) = f) (hab : ∀ i, 0 ≤ i → i < y 2 2 → (i ≠ a ↔ ¬ i = b)) : he y a ↔ ¬ sgo z h p q f b (z 77 0).toNat 0 = -1 := by
  rw [sgo_no _ _ _ _ _ _ _ _ (Int.le_refl 0)]
  unfold he
  constructor
  · rintro ⟨i, i0, i1, i2, i3⟩ hh
    have hd := (df_0 y i a).mp i3
    refine hh i i0 (by omega) ⟨(hab i i0 i1).mp i2, ?_, ?_, ?_, ?_⟩
    · rw [← et i 0 i0 i1 (by omega) (by omega), hd 0 (by omega) (by omega)]; exact r0
    · rw [← et i 1 i0 i1 (by omega) (by omega), hd 1 (by omega) (by omega)]; exact r1
    · rw [← et i 2 i0 i1 (by omega) (by omega), hd 2 (by omega) (by omega)]; exact r2
    · rw [← et i 3 i0 i1 (by omega) (by omega), hd 3 (by omega) (by omega)]; exact r3
  · intro hh
    refine Classical.byContradiction (fun hc => hh (fun i i0 i1 hq => ?_))
    obtain ⟨q0, q1, q2, q3, q4⟩ := hq
    have i2 : i < y 2 2 := by omega
    refine hc ⟨i, i0, i2, (hab i i0 i2).mpr q0, (df_0 y i a).mpr (fun p p0 p1 => ?_)⟩
    rcases (by omega : p = 0 ∨ p = 1 ∨ p = 2 ∨ p = 3) with rfl | rfl | rfl | rfl
    · rw [et i 0 i0 i2 (by omega) (by omega), q1, r0]
    · rw [et i 1 i0 i2 (by omega) (by omega), q2, r1]
    · rw [et i 2 i0 i2 (by omega) (by omega), q3, r2]
    · rw [et i 3 i0 i2 (by omega) (by omega), q4, r3]
/-! a sign more -/
theorem adm_out (z : Mem) (a b c d e : Int) {i : Int} (h0 : i ≠ 0) (h : i < 2 + 5 * z 77 0 ∨ 2 + 5 * z 77 0 + 4 < i) : adm z a b c d e 77 i = z 77 i := by
  unfold adm
  rw [stm_ix _ _ _ h0, stm_ix _ _ _ (by omega), stm_ix _ _ _ (by omega), stm_ix _ _ _ (by omega), stm_ix _ _ _ (by omega), stm_ix _ _ _ (by omega)]
theorem adm_in (z : Mem) (a b c d e : Int) (hn : 0 ≤ z 77 0) : adm z a b c d e 77 0 = z 77 0 + 1 ∧ adm z a b c d e 77 (2 + 5 * z 77 0 + 0) = a ∧ adm z a b c d e 77 (2 + 5 * z 77 0 + 1) = b ∧ adm z a b c d e 77 (2 + 5 * z 77 0 + 2) = c ∧ adm z a b c d e 77 (2 + 5 * z 77 0 + 3) = d ∧ adm z a b c d e 77 (2 + 5 * z 77 0 + 4) = e := by
  have h : ∀ i, adm z a b c d e 77 i = if i = 0 then z 77 0 + 1 else if i = 2 + 5 * z 77 0 + 4 then e else if i = 2 + 5 * z 77 0 + 3 then d else if i = 2 + 5 * z 77 0 + 2 then c else if i = 2 + 5 * z 77 0 + 1 then b else if i = 2 + 5 * z 77 0 then a else z 77 i := fun i => by
    unfold adm
    rw [stm_at, stm_at, stm_at, stm_at, stm_at, stm_at]
  rw [h, h, h, h, h, h]
  refine ⟨if_pos rfl, ?_, ?_, ?_, ?_, ?_⟩
  · rw [if_neg (by omega), if_neg (by omega), if_neg (by omega), if_neg (by omega), if_neg (by omega), if_pos (by omega)]
  · rw [if_neg (by omega), if_neg (by omega), if_neg (by omega), if_neg (by omega), if_pos rfl]
  · rw [if_neg (by omega), if_neg (by omega), if_neg (by omega), if_pos rfl]
  · rw [if_neg (by omega), if_neg (by omega), if_pos rfl]
  · rw [if_neg (by omega), if_pos rfl]
theorem apm_ne (y : Mem) {q : Nat} (h2 : q ≠ 2) (h3 : q ≠ 3) : apm y q = y q := by
  unfold apm
  rw [stm_ne _ _ _ h2, sr_ne _ _ h3]
theorem apm_3 (y : Mem) (i : Int) : apm y 3 i = if y 2 2 * 5 ≤ i ∧ i < y 2 2 * 5 + 5 then y 3 (80 + (i - y 2 2 * 5)) else y 3 i := by
  unfold apm
  rw [stm_ne _ _ _ (by decide), sr_eq]
  rfl
theorem ask5 (x : Mem) (a b c d e : Int) : (∀ q : Nat, q ≠ 3 → stm (askm x a b c d) 3 84 e q = x q) ∧ (∀ i, i < 80 → stm (askm x a b c d) 3 84 e 3 i = x 3 i) ∧ stm (askm x a b c d) 3 84 e 3 80 = a ∧ stm (askm x a b c d) 3 84 e 3 81 = b ∧ stm (askm x a b c d) 3 84 e 3 82 = c ∧ stm (askm x a b c d) 3 84 e 3 83 = d ∧ stm (askm x a b c d) 3 84 e 3 84 = e := by
  obtain ⟨h0, h1, h2, h3⟩ := ask_hi x a b c d
  refine ⟨fun q hq => by rw [stm_ne _ _ _ hq, ask_ne _ _ _ _ _ hq], fun i hi => by rw [stm_ix _ _ _ (by omega), ask_lo _ _ _ _ _ hi], ?_, ?_, ?_, ?_, stm_eq _ _ _ _⟩
  · rw [stm_ix _ _ _ (by decide)]; exact h0
  · rw [stm_ix _ _ _ (by decide)]; exact h1
  · rw [stm_ix _ _ _ (by decide)]; exact h2
  · rw [stm_ix _ _ _ (by decide)]; exact h3
theorem SE.add {x z y : Mem} (h : SE x z) (h16 : x 2 2 < 16) {a b c d e : Int} (hr : ((0 ≤ a ∧ a ≤ 7) ∧ (0 ≤ b ∧ b ≤ 7) ∧ (0 ≤ c ∧ c ≤ 7) ∧ (0 ≤ d ∧ d ≤ 7)) ∧ (0 ≤ e ∧ e ≤ 3)) (hq : ∀ q : Nat, q ≠ 3 → y q = x q) (hl : ∀ i, i < 80 → y 3 i = x 3 i) (y0 : y 3 80 = a) (y1 : y 3 81 = b) (y2 : y 3 82 = c) (y3 : y 3 83 = d) (y4 : y 3 84 = e) : SE (apm y) (adm z a b c d e) := by
  obtain ⟨⟨o1, o2, o3, o4, o5, o6, o7⟩, e0, e1, e2, e3, e4, e5⟩ := h
  have n2 : y 2 2 = x 2 2 := by rw [hq 2 (by decide)]
  obtain ⟨z0, z1, z2, z3, z4, z5⟩ := adm_in z a b c d e (by omega)
  have hn : apm y 2 2 = x 2 2 + 1 := by rw [apm_n, n2]
  have hold : ∀ k j, 0 ≤ k → k < x 2 2 → 0 ≤ j → j ≤ 4 → apm y 3 (k * 5 + j) = x 3 (k * 5 + j) := fun k j k0 k1 j0 j1 => by
    rw [apm_3, n2, if_neg (by omega), hl _ (by omega)]
  have hnew : ∀ j, 0 ≤ j → j ≤ 4 → apm y 3 (x 2 2 * 5 + j) = y 3 (80 + j) := fun j j0 j1 => by
    rw [apm_3, n2, if_pos (by omega)]
    exact congrArg (y 3) (by omega)
  have hv : ∀ j, 0 ≤ j → j ≤ 4 → (j ≤ 3 → 0 ≤ y 3 (80 + j) ∧ y 3 (80 + j) ≤ 7) ∧ (j = 4 → 0 ≤ y 3 (80 + j) ∧ y 3 (80 + j) ≤ 3) ∧ y 3 (80 + j) = adm z a b c d e 77 (2 + 5 * x 2 2 + j) := fun j j0 j1 => by
    rw [e0]
    rcases (by omega : j = 0 ∨ j = 1 ∨ j = 2 ∨ j = 3 ∨ j = 4) with rfl | rfl | rfl | rfl | rfl
    · rw [z1, show (80 : Int) + 0 = 80 from rfl, y0]; exact ⟨fun _ => hr.1.1, fun hh => by omega, rfl⟩
    · rw [z2, show (80 : Int) + 1 = 81 from rfl, y1]; exact ⟨fun _ => hr.1.2.1, fun hh => by omega, rfl⟩
    · rw [z3, show (80 : Int) + 2 = 82 from rfl, y2]; exact ⟨fun _ => hr.1.2.2.1, fun hh => by omega, rfl⟩
    · rw [z4, show (80 : Int) + 3 = 83 from rfl, y3]; exact ⟨fun _ => hr.1.2.2.2, fun hh => by omega, rfl⟩
    · rw [z5, show (80 : Int) + 4 = 84 from rfl, y4]; exact ⟨fun hh => by omega, fun _ => hr.2, rfl⟩
  have q4 : apm y 4 = x 4 := by rw [apm_ne _ (by decide) (by decide), hq 4 (by decide)]
  have q5 : apm y 5 = x 5 := by rw [apm_ne _ (by decide) (by decide), hq 5 (by decide)]
  have q6 : apm y 6 = x 6 := by rw [apm_ne _ (by decide) (by decide), hq 6 (by decide)]
  have q7 : apm y 7 = x 7 := by rw [apm_ne _ (by decide) (by decide), hq 7 (by decide)]
  refine ⟨⟨by rw [hn]; omega, by rw [q5]; exact o2, fun k j k0 k1 j0 j1 => ?_, fun k k0 k1 => ?_, by rw [q4]; exact o5, ?_, by rw [q7]; exact o7⟩, ?_, ?_, fun k j k0 k1 j0 j1 => ?_, fun i j i0 i1 j0 j1 => ?_, fun j j0 j1 => ?_, fun j j0 j1 => ?_⟩
  · rw [hn] at k1
    by_cases hk : k = x 2 2
    · rw [hk, hnew j j0 (by omega)]; exact (hv j j0 (by omega)).1 j1
    · rw [hold k j k0 (by omega) j0 (by omega)]; exact o3 k j k0 (by omega) j0 j1
  · rw [hn] at k1
    by_cases hk : k = x 2 2
    · rw [hk, hnew 4 (by omega) (by omega)]; exact (hv 4 (by omega) (by omega)).2.1 rfl
    · rw [hold k 4 k0 (by omega) (by omega) (by omega)]; exact o4 k k0 (by omega)
  · rw [q5, q6, hn]
    intro i i0 i1
    have := o6 i i0 i1
    omega
  · rw [hn, z0, e0]
  · rw [q5, adm_out _ _ _ _ _ _ (by omega) (by omega)]; exact e1
  · rw [hn] at k1
    by_cases hk : k = x 2 2
    · rw [hk, hnew j j0 j1]; exact (hv j j0 j1).2.2
    · rw [hold k j k0 (by omega) j0 j1, adm_out _ _ _ _ _ _ (by omega) (by omega)]; exact e2 k j k0 (by omega) j0 j1
  · rw [q5] at i1
    rw [q6, adm_out _ _ _ _ _ _ (by omega) (by omega)]; exact e3 i j i0 i1 j0 j1
  · rw [q4, adm_out _ _ _ _ _ _ (by omega) (by omega)]; exact e4 j j0 j1
  · rw [q7, adm_out _ _ _ _ _ _ (by omega) (by omega)]; exact e5 j j0 j1
theorem SE.sign {x z : Mem} (h : SE x z) (a b c d e : Int) : adr x a b c d e = (if cns z a b c d e < 0 then cns z a b c d e else z 77 0) ∧ (cns z a b c d e = 0 → SE (adx x a b c d e) (adm z a b c d e)) ∧ (¬ cns z a b c d e = 0 → (∀ q : Nat, q ≠ 3 → adx x a b c d e q = x q) ∧ ∀ i, i < 80 → adx x a b c d e 3 i = x 3 i) := by
  by_cases hr : ((0 ≤ a ∧ a ≤ 7) ∧ (0 ≤ b ∧ b ≤ 7) ∧ (0 ≤ c ∧ c ≤ 7) ∧ (0 ≤ d ∧ d ≤ 7)) ∧ (0 ≤ e ∧ e ≤ 3)
  · obtain ⟨hq, hl, y0, y1, y2, y3, y4⟩ := ask5 x a b c d e
    have ea : adr x a b c d e = apr (stm (askm x a b c d) 3 84 e) := if_pos hr
    have ex : adx x a b c d e = apx (stm (askm x a b c d) 3 84 e) := if_pos hr
    have ec : cns z a b c d e = if sgo z a b c d (-1) (z 77 0).toNat 0 = -1 then (if z 77 0 = 16 then -4 else 0) else -3 := if_pos hr
    rw [ea, ex, ec]
    generalize stm (askm x a b c d) 3 84 e = y at hq hl y0 y1 y2 y3 y4
    have hE := h.2
    have o1 := h.1.1
    have e0 := hE.1
    have n2 : y 2 2 = x 2 2 := by rw [hq 2 (by decide)]
    have hh := he_sgo (y := y) (z := z) (a := 16) (b := -1) (h := a) (p := b) (q := c) (f := d) (by rw [n2]; exact e0) (by rw [n2]; exact o1.1) (fun k j k0 k1 j0 j1 => by rw [n2] at k1; rw [hl _ (by omega)]; exact hE.2.2.1 k j k0 k1 j0 (by omega)) y0 y1 y2 y3 (fun i i0 i1 => ⟨fun _ => by omega, fun _ => by omega⟩)
    by_cases hs : sgo z a b c d (-1) (z 77 0).toNat 0 = -1
    · have hne : ¬ he y 16 := fun q => (hh.mp q) hs
      have e1 : apr y = if y 2 2 < 16 then y 2 2 else -4 := if_pos (bp_f hne)
      rw [if_pos hs, e1, n2]
      by_cases h16 : z 77 0 = 16
      · have e2 : apx y = y := if_neg (fun q => by have := q.2; omega)
        rw [if_pos h16, if_neg (by omega), if_pos (by decide), e2]
        exact ⟨rfl, fun q => by omega, fun _ => ⟨hq, hl⟩⟩
      · have e2 : apx y = apm y := if_pos ⟨bp_f hne, by omega⟩
        rw [if_neg h16, if_pos (by omega), if_neg (by decide), e2]
        exact ⟨e0, fun _ => h.add (by omega) hr hq hl y0 y1 y2 y3 y4, fun q => absurd rfl q⟩
    · have hne : he y 16 := hh.mpr hs
      have hb : ¬ bp (he y 16) = 0 := by rw [bp_t hne]; decide
      have e1 : apr y = -3 := if_neg hb
      have e2 : apx y = y := if_neg (fun q => hb q.1)
      rw [if_neg hs, e1, e2, if_pos (by decide)]
      exact ⟨rfl, fun q => absurd q (by decide), fun _ => ⟨hq, hl⟩⟩
  · have ea : adr x a b c d e = -2 := if_neg hr
    have ex : adx x a b c d e = x := if_neg hr
    have ec : cns z a b c d e = -2 := if_neg hr
    rw [ea, ex, ec]
    exact ⟨rfl, fun q => absurd q (by decide), fun _ => ⟨fun _ _ => rfl, fun _ _ => rfl⟩⟩
/-! a part of a sign -/
theorem SE.becomes {x z : Mem} (h : SE x z) (k w v : Int) : (¬ bcd z k w v → chr x k w v = -2 ∧ chx x k w v = x) ∧ (bcd z k w v → ¬ bcs z k w v = -1 → chr x k w v = -3 ∧ chx x k w v = x) ∧ (bcd z k w v → bcs z k w v = -1 → chr x k w v = z 77 (2 + 5 * k + w) ∧ (0 ≤ chr x k w v) ∧ SE (chx x k w v) (stm z 77 (2 + 5 * k + w) v)) := by
  have hh := h
  obtain ⟨⟨o1, o2, o3, o4, o5, o6, o7⟩, e0, e1, e2, e3, e4, e5⟩ := hh
  have hd : bcd z k w v ↔ ((0 ≤ k ∧ k < x 2 2) ∧ (0 ≤ w ∧ w ≤ 4) ∧ (0 ≤ v ∧ v ≤ (if w = 4 then 3 else 7))) := by
    unfold bcd
    rw [← e0]
    by_cases hw : w = 4
    · rw [if_pos hw]; omega
    · rw [if_neg hw]; omega
  by_cases hc : bcd z k w v
  · have hc2 := hd.mp hc
    have hv : 0 ≤ v ∧ v ≤ 7 ∧ (w = 4 → v ≤ 3) := by
      have := hc2.2.2
      split at this <;> omega
    have hx3 : ∀ i, stm x 3 (k * 5 + w) v 3 i = if i = k * 5 + w then v else x 3 i := fun i => stm_at _ _ _ _ _
    have hz7 : ∀ i, bcm z k w v 77 i = if i = 2 + 5 * k + w then v else z 77 i := fun i => stm_at _ _ _ _ _
    have het : ∀ k2 j, 0 ≤ k2 → k2 < x 2 2 → 0 ≤ j → j ≤ 4 → stm x 3 (k * 5 + w) v 3 (k2 * 5 + j) = bcm z k w v 77 (2 + 5 * k2 + j) := fun k2 j a b c d => by
      rw [hx3, hz7]
      by_cases hj : k2 * 5 + j = k * 5 + w
      · rw [if_pos hj, if_pos (by omega)]
      · rw [if_neg hj, if_neg (by omega)]; exact e2 k2 j a b c d
    have n2 : stm x 3 (k * 5 + w) v 2 2 = x 2 2 := by rw [stm_ne _ _ _ (by decide)]
    have en : bcm z k w v 77 0 = z 77 0 := by rw [hz7, if_neg (by omega)]
    have hq := he_sgo (y := stm x 3 (k * 5 + w) v) (z := bcm z k w v) (a := k) (b := k) (by rw [n2, en]; exact e0) (by rw [n2]; exact o1.1) (fun k2 j a b c d => het k2 j a (by rw [n2] at b; exact b) c (by omega)) (het k 0 hc2.1.1 hc2.1.2 (by omega) (by omega)) (het k 1 hc2.1.1 hc2.1.2 (by omega) (by omega)) (het k 2 hc2.1.1 hc2.1.2 (by omega) (by omega)) (het k 3 hc2.1.1 hc2.1.2 (by omega) (by omega)) (fun i _ _ => Iff.rfl)
    have hq2 : he (stm x 3 (k * 5 + w) v) k ↔ ¬ bcs z k w v = -1 := hq
    refine ⟨fun q => absurd hc q, fun _ hs => ?_, fun _ hs => ?_⟩
    · have hb : ¬ bp (he (stm x 3 (k * 5 + w) v) k) = 0 := by rw [bp_t (hq2.mpr hs)]; decide
      unfold chr chx
      rw [if_pos hc2, if_neg hb, if_neg (fun q => hb q.2)]
      exact ⟨rfl, rfl⟩
    · have hb : bp (he (stm x 3 (k * 5 + w) v) k) = 0 := bp_f (fun q => (hq2.mp q) hs)
      unfold chr chx
      rw [if_pos hc2, if_pos hb, if_pos ⟨hc2, hb⟩]
      refine ⟨e2 k w hc2.1.1 hc2.1.2 hc2.2.1.1 hc2.2.1.2, ?_, ⟨by rw [n2]; exact o1, by rw [stm_ne _ _ _ (by decide)]; exact o2, fun k2 j a b c d => ?_, fun k2 a b => ?_, by rw [stm_ne _ _ _ (by decide)]; exact o5, by rw [n2, stm_ne _ _ _ (by decide), stm_ne _ _ _ (by decide)]; exact o6, by rw [stm_ne _ _ _ (by decide)]; exact o7⟩, ?_, ?_, fun k2 j a b c d => ?_, fun i j a b c d => ?_, fun j a b => ?_, fun j a b => ?_⟩
      · by_cases hw : w = 4
        · rw [hw]; exact (o4 k hc2.1.1 hc2.1.2).1
        · exact (o3 k w hc2.1.1 hc2.1.2 hc2.2.1.1 (by omega)).1
      · rw [n2] at b
        rw [hx3]
        split
        · omega
        · exact o3 k2 j a b c d
      · rw [n2] at b
        rw [hx3]
        split
        · omega
        · exact o4 k2 a b
      · rw [n2]; exact e0.trans en.symm
      · rw [stm_ne _ _ _ (by decide), stm_ix _ _ _ (by omega)]; exact e1
      · rw [n2] at b
        exact het k2 j a b c d
      · rw [stm_ne _ _ _ (by decide)] at b
        rw [stm_ne _ _ _ (by decide), stm_ix _ _ _ (by omega)]; exact e3 i j a b c d
      · rw [stm_ne _ _ _ (by decide), stm_ix _ _ _ (by omega)]; exact e4 j a b
      · rw [stm_ne _ _ _ (by decide), stm_ix _ _ _ (by omega)]; exact e5 j a b
  · have hc2 : ¬ ((0 ≤ k ∧ k < x 2 2) ∧ (0 ≤ w ∧ w ≤ 4) ∧ (0 ≤ v ∧ v ≤ (if w = 4 then 3 else 7))) := fun q => hc (hd.mpr q)
    refine ⟨fun _ => ?_, fun q => absurd q hc, fun q => absurd q hc⟩
    unfold chr chx
    rw [if_neg hc2, if_neg (fun q => hc2 q.1)]
    exact ⟨rfl, rfl⟩
