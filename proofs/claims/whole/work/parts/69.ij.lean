/-! ===== what the words mean ===== -/
theorem q_sw {x z : Mem} (h : SE x z) {j : Int} (j0 : 0 ≤ j) (j1 : j < x 5 1) : sw x j = swm z j := by
  obtain ⟨⟨o1, o2, o3, o4, o5, o6, o7⟩, e0, e1, e2, e3, e4, e5⟩ := h
  have h6 := (o6 j j0 j1).1
  unfold sw swm
  rw [← e3 j 0 j0 j1 (by omega) (by omega)]
  exact e2 _ 4 h6.1 h6.2 (by omega) (by omega)
theorem clm_s (z : Mem) {j : Int} (j0 : 0 ≤ j) : clm z (j + 1) = clm z j + (if swm z j = 3 then 1 else 0) := by
  unfold clm
  rw [show (j + 1).toNat = j.toNat + 1 by omega, it_succ, Int.zero_add, Int.toNat_of_nonneg j0]
theorem clm_0 (z : Mem) : clm z 0 = 0 := rfl
theorem atm_s (z : Mem) (s : Int) {j : Int} (j0 : 0 ≤ j) (j1 : j < z 77 1) : atm z s (j + 1) = if swm z j = 1 ∧ z 77 (82 + 3 * j + 2) = s then z 77 (82 + 3 * j + 0) else atm z s j := by
  unfold atm
  have e1 : mn (j + 1) (z 77 1) = j + 1 := by unfold mn; split <;> omega
  have e2 : mn j (z 77 1) = j := by unfold mn; split <;> omega
  rw [e1, e2, show (j + 1).toNat = j.toNat + 1 by omega, it_succ, Int.zero_add, Int.toNat_of_nonneg j0]
theorem iw_at (y : Mem) (i s : Int) (h6 : -1 ≤ y 6 (i * 3 + 2) ∧ y 6 (i * 3 + 2) ≤ 5) : (∀ u, 0 ≤ u → iw y i s 58 u = if s = 1 ∧ y 6 (i * 3 + 2) = u then y 6 (i * 3 + 0) else y 58 u) ∧ (∀ v, v ≠ i → iw y i s 60 v = y 60 v ∧ iw y i s 61 v = y 61 v ∧ iw y i s 62 v = y 62 v) ∧ iw y i s 60 i = (if s = 2 then (if tha y (y 6 (i * 3 + 2)) = -1 then 1 else 0) else if s = 3 then (if (¬ y 6 (i * 3 + 1) = -1 ∧ tha y (y 6 (i * 3 + 1)) = -1) ∨ (¬ y 6 (i * 3 + 2) = -1 ∧ tha y (y 6 (i * 3 + 2)) = -1) then 1 else 0) else 0) ∧ iw y i s 61 i = (if s = 2 then tha y (y 6 (i * 3 + 2)) else if s = 3 then tha y (y 6 (i * 3 + 1)) else -1) ∧ iw y i s 62 i = (if s = 3 then tha y (y 6 (i * 3 + 2)) else -1) := by
  have w0 : (iw0 y i 58 = y 58) ∧ (∀ v, v ≠ i → iw0 y i 60 v = y 60 v ∧ iw0 y i 61 v = y 61 v ∧ iw0 y i 62 v = y 62 v) ∧ iw0 y i 60 i = 0 ∧ iw0 y i 61 i = -1 ∧ iw0 y i 62 i = -1 := by
    unfold iw0
    refine ⟨by rw [stm_ne _ _ _ (by decide), stm_ne _ _ _ (by decide), stm_ne _ _ _ (by decide)], fun v hv => ⟨by rw [stm_ne _ _ _ (by decide), stm_ne _ _ _ (by decide), stm_ix _ _ _ hv], by rw [stm_ne _ _ _ (by decide), stm_ix _ _ _ hv, stm_ne _ _ _ (by decide)], by rw [stm_ix _ _ _ hv, stm_ne _ _ _ (by decide), stm_ne _ _ _ (by decide)]⟩, by rw [stm_ne _ _ _ (by decide), stm_ne _ _ _ (by decide), stm_eq], by rw [stm_ne _ _ _ (by decide), stm_eq], stm_eq _ _ _ _⟩
  obtain ⟨w1, w2, w3, w4, w5⟩ := w0
  unfold iw
  generalize iw0 y i = g at w1 w2 w3 w4 w5 ⊢
  by_cases h1 : s = 1
  · have n2 : ¬ s = 2 := by omega
    have n3 : ¬ s = 3 := by omega
    simp only [if_pos h1, if_neg n2, if_neg n3]
    by_cases hr : 0 ≤ y 6 (i * 3 + 2) ∧ y 6 (i * 3 + 2) ≤ 5
    · simp only [if_pos hr]
      refine ⟨fun u u0 => ?_, fun v hv => ?_, ?_, ?_, ?_⟩
      · rw [stm_at, w1]
        by_cases hu : u = y 6 (i * 3 + 2)
        · rw [if_pos hu, if_pos ⟨h1, hu.symm⟩]
        · rw [if_neg hu, if_neg (fun q => hu q.2.symm)]
      · rw [stm_ne _ _ _ (by decide), stm_ne _ _ _ (by decide), stm_ne _ _ _ (by decide)]; exact w2 v hv
      · rw [stm_ne _ _ _ (by decide)]; exact w3
      · rw [stm_ne _ _ _ (by decide)]; exact w4
      · rw [stm_ne _ _ _ (by decide)]; exact w5
    · simp only [if_neg hr]
      refine ⟨fun u u0 => ?_, w2, w3, w4, w5⟩
      rw [w1, if_neg (fun q => hr (by omega))]
  · by_cases h2 : s = 2
    · have n3 : ¬ s = 3 := by omega
      simp only [if_neg h1, if_pos h2, if_neg n3]
      refine ⟨fun u u0 => ?_, fun v hv => ?_, ?_, ?_, ?_⟩
      · rw [stm_ne _ _ _ (by decide), stm_ne _ _ _ (by decide), w1, if_neg (fun q => h1 q.1)]
      · rw [stm_ix _ _ _ hv, stm_ne _ _ _ (by decide), stm_ne _ _ _ (by decide), stm_ix _ _ _ hv, stm_ne _ _ _ (by decide), stm_ne _ _ _ (by decide)]; exact w2 v hv
      · rw [stm_eq]
      · rw [stm_ne _ _ _ (by decide), stm_eq]
      · rw [stm_ne _ _ _ (by decide), stm_ne _ _ _ (by decide)]; exact w5
    · by_cases h3 : s = 3
      · simp only [if_neg h1, if_neg h2, if_pos h3]
        refine ⟨fun u u0 => ?_, fun v hv => ?_, ?_, ?_, ?_⟩
        · rw [stm_ne _ _ _ (by decide), stm_ne _ _ _ (by decide), stm_ne _ _ _ (by decide), w1, if_neg (fun q => h1 q.1)]
        · rw [stm_ix _ _ _ hv, stm_ne _ _ _ (by decide), stm_ne _ _ _ (by decide), stm_ne _ _ _ (by decide), stm_ne _ _ _ (by decide), stm_ix _ _ _ hv, stm_ne _ _ _ (by decide), stm_ix _ _ _ hv, stm_ne _ _ _ (by decide)]; exact w2 v hv
        · rw [stm_eq]
        · rw [stm_ne _ _ _ (by decide), stm_ne _ _ _ (by decide), stm_eq]
        · rw [stm_ne _ _ _ (by decide), stm_eq]
      · simp only [if_neg h1, if_neg h2, if_neg h3]
        refine ⟨fun u u0 => ?_, w2, w3, w4, w5⟩
        rw [w1, if_neg (fun q => h1 q.1)]
def IV (x z : Mem) (j : Int) (X : Int × Mem) : Prop := SW x X.2 ∧ X.1 = clm z j ∧ (∀ s, 0 ≤ s → s ≤ 5 → X.2 58 s = atm z s j) ∧ (∀ i, 0 ≤ i → i < j → X.2 59 i = clm z i ∧ X.2 60 i = vnm z i ∧ X.2 61 i = wim z i 5 ∧ X.2 62 i = wim z i 6) ∧ X.2 57 5 = (if j = 0 then 0 else clm z (j - 1) + 1) ∧ X.2 57 6 = sm (fun i => vnm z i) j.toNat
theorem ipr_IV {x z : Mem} (h : SE x z) {j : Int} {X : Int × Mem} (j0 : 0 ≤ j) (j1 : j < x 5 1) (hX : IV x z j X) : IV x z (j + 1) (ipr j X) := by
  obtain ⟨g1, g2, g3, g4, g5, g6⟩ := hX
  have e1 := h.2.2.1
  have e3 := h.2.2.2.2.1
  have o6 := h.1.2.2.2.2.2.1 j j0 j1
  have s6 : X.2 6 = x 6 := g1.2.2.2
  have hs : sw X.2 j = swm z j := by
    rw [← q_sw h j0 j1]
    unfold sw
    rw [s6, g1.2.1]
  have y0 : X.2 6 (j * 3 + 0) = z 77 (82 + 3 * j + 0) := by rw [s6]; exact e3 j 0 j0 j1 (by omega) (by omega)
  have y1 : X.2 6 (j * 3 + 1) = z 77 (82 + 3 * j + 1) := by rw [s6]; exact e3 j 1 j0 j1 (by omega) (by omega)
  have y2 : X.2 6 (j * 3 + 2) = z 77 (82 + 3 * j + 2) := by rw [s6]; exact e3 j 2 j0 j1 (by omega) (by omega)
  have r1 : -1 ≤ z 77 (82 + 3 * j + 1) ∧ z 77 (82 + 3 * j + 1) ≤ 5 := by rw [← y1, s6]; exact o6.2.1
  have r2 : -1 ≤ z 77 (82 + 3 * j + 2) ∧ z 77 (82 + 3 * j + 2) ≤ 5 := by rw [← y2, s6]; exact o6.2.2
  have ht : ∀ w : Int, (-1 ≤ z 77 (82 + 3 * j + w) ∧ z 77 (82 + 3 * j + w) ≤ 5) → tha X.2 (z 77 (82 + 3 * j + w)) = mnt z j w := fun w hw => by
    unfold tha mnt
    by_cases hm : z 77 (82 + 3 * j + w) = -1
    · rw [if_pos hm, if_neg (by omega)]
    · rw [if_neg hm, if_pos (by omega)]
      exact g3 _ (by omega) (by omega)
  obtain ⟨i1, i2, i3, i4, i5⟩ := iw_at X.2 j (sw X.2 j) (by rw [y2]; exact r2)
  rw [hs] at i1 i2 i3 i4 i5
  rw [y0, y2] at i1
  rw [y1, y2, ht 1 r1, ht 2 r2] at i3 i4
  rw [y2, ht 2 r2] at i5
  have v60 : iw X.2 j (swm z j) 60 j = vnm z j := i3
  have v61 : iw X.2 j (swm z j) 61 j = wim z j 5 := i4
  have v62 : iw X.2 j (swm z j) 62 j = wim z j 6 := i5
  have m2 : ∀ q : Nat, q ≠ 57 → q ≠ 59 → im2 j X q = iw X.2 j (swm z j) q := fun q q1 q2 => by
    unfold im2
    rw [stm_ne _ _ _ q1, stm_ne _ _ _ q2, hs]
  have m59 : ∀ v, im2 j X 59 v = if v = j then X.1 else X.2 59 v := fun v => by
    unfold im2
    rw [stm_ne _ _ _ (by decide), stm_at, hs]
    split
    · rfl
    · have : iw X.2 j (swm z j) 59 = X.2 59 := by
        have w0 : iw0 X.2 j 59 = X.2 59 := by unfold iw0; rw [stm_ne _ _ _ (by decide), stm_ne _ _ _ (by decide), stm_ne _ _ _ (by decide)]
        unfold iw
        (repeat' split) <;> (repeat rw [stm_ne _ _ _ (by decide)]) <;> exact w0
      rw [this]
  have m575 : im2 j X 57 5 = X.1 + 1 := stm_eq _ _ _ _
  have m576 := im2_57 j X
  have hrest : ∀ q : Nat, q ≠ 57 → (ipr j X).2 q = im2 j X q := fun q hq => by
    show (if im2 j X 60 j = 0 then im2 j X else stm (im2 j X) 57 6 (im2 j X 57 6 + 1)) q = _
    split
    · rfl
    · exact stm_ne _ _ _ hq
  have h57 : (ipr j X).2 57 5 = X.1 + 1 ∧ (ipr j X).2 57 6 = X.2 57 6 + vnm z j := by
    have hv : im2 j X 60 j = vnm z j := by rw [m2 60 (by decide) (by decide)]; exact v60
    show (if im2 j X 60 j = 0 then im2 j X else stm (im2 j X) 57 6 (im2 j X 57 6 + 1)) 57 5 = _ ∧ (if im2 j X 60 j = 0 then im2 j X else stm (im2 j X) 57 6 (im2 j X 57 6 + 1)) 57 6 = _
    rw [hv]
    rcases vnm_01 z j with hz | hz
    · rw [if_pos hz, m575, m576, hz, Int.add_zero]; exact ⟨rfl, rfl⟩
    · rw [if_neg (by omega), stm_ix _ _ _ (by decide), stm_eq, m575, m576, hz]; exact ⟨rfl, rfl⟩
  have f1 : (ipr j X).1 = clm z (j + 1) := by
    show (if sw X.2 j = 3 then X.1 + 1 else X.1) = _
    rw [hs, clm_s z j0, g2]
    split <;> omega
  refine ⟨⟨?_, ?_, ?_, ?_⟩, f1, fun s s0 s1 => ?_, fun i i0 i1' => ?_, ?_, ?_⟩
  · rw [ipr_ne _ _ (by decide)]; exact g1.1
  · rw [ipr_ne _ _ (by decide)]; exact g1.2.1
  · rw [ipr_ne _ _ (by decide)]; exact g1.2.2.1
  · rw [ipr_ne _ _ (by decide)]; exact g1.2.2.2
  · rw [hrest 58 (by decide), m2 58 (by decide) (by decide), i1 s s0, atm_s z s j0 (by omega)]
    split
    · rfl
    · exact g3 s s0 s1
  · rw [hrest 59 (by decide), hrest 60 (by decide), hrest 61 (by decide), hrest 62 (by decide), m59, m2 60 (by decide) (by decide), m2 61 (by decide) (by decide), m2 62 (by decide) (by decide)]
    by_cases hi : i = j
    · rw [hi, if_pos rfl]; exact ⟨g2, v60, v61, v62⟩
    · rw [if_neg hi, (i2 i hi).1, (i2 i hi).2.1, (i2 i hi).2.2]; exact g4 i i0 (by omega)
  · rw [h57.1, if_neg (by omega), show j + 1 - 1 = j by omega, g2]
  · rw [h57.2, g6, show (j + 1).toNat = j.toNat + 1 by omega]
    show _ = sm (fun i => vnm z i) j.toNat + vnm z ((j.toNat : Nat) : Int)
    rw [Int.toNat_of_nonneg j0]
theorem ipm_IV {x z : Mem} (h : SE x z) {w : Int} (hw : 0 ≤ w) : ∃ d, IV x z (mn w (x 5 1)) (d, ipm x w) := by
  have o2 := h.1.2.1
  have hm := mn_le hw o2.1
  have h0 : IV x z 0 (0, ip0 x) := by
    refine ⟨ip0_SW x, rfl, fun s s0 s1 => ?_, fun i a b => by omega, ?_, ?_⟩
    · have ea : atm z s 0 = -1 := by
        unfold atm
        rw [show mn 0 (z 77 1) = 0 by have := h.2.2.1; unfold mn; split <;> omega]
        rfl
      rw [ea]
      show ip0 x 58 s = -1
      unfold ip0
      rw [stm_ne _ _ _ (by decide), stm_ne _ _ _ (by decide)]
      exact (fl_get 6 0 s x).1 (by omega)
    · show ip0 x 57 5 = _
      unfold ip0
      rw [stm_eq, if_pos rfl]
    · show ip0 x 57 6 = 0
      unfold ip0
      rw [stm_ix _ _ _ (by decide), stm_eq]
  have hI := it_Ij (f := fun j x => ipr j x) (fun j X => IV x z j X) (mn w (x 5 1)).toNat 0 (0, ip0 x) (fun j X a b hX => ipr_IV h a (by omega) hX) h0
  rw [show 0 + ((mn w (x 5 1)).toNat : Int) = mn w (x 5 1) by omega] at hI
  exact ⟨_, hI⟩
theorem q_at {x z : Mem} (h : SE x z) {a b : Int} (ha : 0 ≤ a ∧ a ≤ 5) (hb : 0 ≤ b) : tha (ipm x b) a = atm z a b := by
  obtain ⟨d, -, -, g3, -⟩ := ipm_IV h hb
  have e1 := h.2.2.1
  have : tha (ipm x b) a = ipm x b 58 a := if_pos ha
  rw [this]
  refine (g3 a ha.1 ha.2).trans ?_
  unfold atm
  rw [← e1, show mn (mn b (x 5 1)) (x 5 1) = mn b (x 5 1) by unfold mn; (repeat' split) <;> omega]
theorem mn16 {c : Int} (h : c ≤ 16) : mn 16 c = c := by unfold mn; split <;> omega
theorem q_wordOf {x z : Mem} (h : SE x z) {a b : Int} (ha : 0 ≤ a ∧ a < x 5 1) (hb : 0 ≤ b ∧ b ≤ 6) : wpr (ipm x 16) a b = wim z a b := by
  obtain ⟨d, g1, -, -, g4, -⟩ := ipm_IV (w := 16) h (by decide)
  have o2 := h.1.2.1
  have e3 := h.2.2.2.2.1
  rw [mn16 o2.2] at g4
  obtain ⟨q1, q2, q3, q4⟩ := g4 a ha.1 ha.2
  have s6 : ipm x 16 6 = x 6 := g1.2.2.2
  change ipm x 16 59 a = _ at q1
  change ipm x 16 60 a = _ at q2
  change ipm x 16 61 a = _ at q3
  change ipm x 16 62 a = _ at q4
  unfold wpr
  rw [q1, q2, q3, q4, s6]
  rcases (by omega : b = 0 ∨ b = 1 ∨ b = 2 ∨ b = 3 ∨ b = 4 ∨ b = 5 ∨ b = 6) with rfl | rfl | rfl | rfl | rfl | rfl | rfl
  · exact e3 a 0 ha.1 ha.2 (by omega) (by omega)
  · exact e3 a 1 ha.1 ha.2 (by omega) (by omega)
  · exact e3 a 2 ha.1 ha.2 (by omega) (by omega)
  · rfl
  · show (if vnm z a = 0 then 0 else 1) = vnm z a
    rcases vnm_01 z a with hz | hz <;> rw [hz] <;> rfl
  · rfl
  · rfl
theorem q_clauses {x z : Mem} (h : SE x z) : ipm x 16 57 5 = cls z ∧ ipm x 16 57 6 = vna z := by
  obtain ⟨d, -, -, -, -, g5, g6⟩ := ipm_IV (w := 16) h (by decide)
  have o2 := h.1.2.1
  have e1 := h.2.2.1
  rw [mn16 o2.2] at g5 g6
  refine ⟨?_, ?_⟩
  · unfold cls
    rw [← e1]
    exact g5
  · refine g6.trans ?_
    unfold vna
    rw [it_sm (fun i => if vnm z i = 0 then 0 else 1), Int.zero_add, ← e1]
    exact sm_cg _ (fun i _ _ => by rcases vnm_01 z i with hz | hz <;> rw [hz] <;> rfl)
