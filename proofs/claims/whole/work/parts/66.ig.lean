/-! weight, words -/
theorem SE.weight {x z : Mem} (h : SE x z) {a b : Int} (hc : (0 ≤ a ∧ a ≤ 3) ∧ (0 ≤ b ∧ b ≤ 5)) : wtr x a b = z 77 (130 + a) ∧ 0 ≤ wtr x a b ∧ SE (wtx x a b) (stm z 77 (130 + a) b) := by
  obtain ⟨⟨o1, o2, o3, o4, o5, o6, o7⟩, e0, e1, e2, e3, e4, e5⟩ := h
  have er : wtr x a b = x 4 a := if_pos hc
  have ex : wtx x a b = stm x 4 a b := if_pos hc
  rw [er, ex]
  have n2 : stm x 4 a b 2 = x 2 := stm_ne _ _ _ (by decide)
  have n3 : stm x 4 a b 3 = x 3 := stm_ne _ _ _ (by decide)
  have n5 : stm x 4 a b 5 = x 5 := stm_ne _ _ _ (by decide)
  have n6 : stm x 4 a b 6 = x 6 := stm_ne _ _ _ (by decide)
  have n7 : stm x 4 a b 7 = x 7 := stm_ne _ _ _ (by decide)
  refine ⟨e4 a hc.1.1 hc.1.2, (o5 a hc.1.1 hc.1.2).1, ⟨by rw [n2]; exact o1, by rw [n5]; exact o2, by rw [n2, n3]; exact o3, by rw [n2, n3]; exact o4, fun j j0 j1 => ?_, by rw [n2, n5, n6]; exact o6, by rw [n7]; exact o7⟩, ?_, ?_, ?_, ?_, fun j j0 j1 => ?_, ?_⟩
  · rw [stm_at]
    split
    · exact hc.2
    · exact o5 j j0 j1
  · rw [n2, stm_ix _ _ _ (by omega)]; exact e0
  · rw [n5, stm_ix _ _ _ (by omega)]; exact e1
  · rw [n2, n3]; intro k j k0 k1 j0 j1; rw [stm_ix _ _ _ (by omega)]; exact e2 k j k0 k1 j0 j1
  · rw [n5, n6]; intro i j i0 i1 j0 j1; rw [stm_ix _ _ _ (by omega)]; exact e3 i j i0 i1 j0 j1
  · rw [stm_at, stm_at]
    by_cases hj : j = a
    · rw [if_pos hj, if_pos (by omega)]
    · rw [if_neg hj, if_neg (by omega)]; exact e4 j j0 j1
  · rw [n7]; intro j j0 j1; rw [stm_ix _ _ _ (by omega)]; exact e5 j j0 j1
/-- the words may change on both sides -/
theorem SE.words {x z x' z' : Mem} (h : SE x z) (q2 : x' 2 2 = x 2 2) (q3 : x' 3 = x 3) (q4 : x' 4 = x 4) (q7 : x' 7 = x 7) (hc : 0 ≤ x' 5 1 ∧ x' 5 1 ≤ 16) (hz : ∀ i, i ≠ 1 → (i < 82 ∨ 130 ≤ i) → z' 77 i = z 77 i) (hz1 : z' 77 1 = x' 5 1) (hw : ∀ i j, 0 ≤ i → i < x' 5 1 → 0 ≤ j → j ≤ 2 → x' 6 (i * 3 + j) = z' 77 (82 + 3 * i + j)) (hk : ∀ i, 0 ≤ i → i < x' 5 1 → (0 ≤ x' 6 (i * 3 + 0) ∧ x' 6 (i * 3 + 0) < x 2 2) ∧ (-1 ≤ x' 6 (i * 3 + 1) ∧ x' 6 (i * 3 + 1) ≤ 5) ∧ (-1 ≤ x' 6 (i * 3 + 2) ∧ x' 6 (i * 3 + 2) ≤ 5)) : SE x' z' := by
  obtain ⟨⟨o1, o2, o3, o4, o5, o6, o7⟩, e0, e1, e2, e3, e4, e5⟩ := h
  refine ⟨⟨by rw [q2]; exact o1, hc, by rw [q2, q3]; exact o3, by rw [q2, q3]; exact o4, by rw [q4]; exact o5, by rw [q2]; exact hk, by rw [q7]; exact o7⟩, ?_, hz1.symm, ?_, hw, ?_, ?_⟩
  · rw [q2, hz _ (by omega) (by omega)]; exact e0
  · rw [q2, q3]; intro k j k0 k1 j0 j1; rw [hz _ (by omega) (by omega)]; exact e2 k j k0 k1 j0 j1
  · rw [q4]; intro j j0 j1; rw [hz _ (by omega) (by omega)]; exact e4 j j0 j1
  · rw [q7]; intro j j0 j1; rw [hz _ (by omega) (by omega)]; exact e5 j j0 j1
theorem SE.word {x z : Mem} (h : SE x z) (a b c : Int) : awr x a b c = (if csy z a b c < 0 then csy z a b c else z 77 1) ∧ (csy z a b c = 0 → SE (awx x a b c) (sym z a b c)) ∧ (¬ csy z a b c = 0 → awx x a b c = x) := by
  have hh := h
  obtain ⟨⟨o1, o2, o3, o4, o5, o6, o7⟩, e0, e1, e2, e3, e4, e5⟩ := hh
  by_cases hr : (0 ≤ a ∧ a < x 2 2) ∧ (-1 ≤ b ∧ b ≤ 5) ∧ (-1 ≤ c ∧ c ≤ 5)
  · have ea : awr x a b c = if x 5 1 < 16 then x 5 1 else -4 := if_pos hr
    have ec : csy z a b c = if z 77 1 = 16 then -4 else 0 := if_pos (by rw [← e0]; exact hr)
    rw [ea, ec]
    by_cases h16 : x 5 1 < 16
    · have ex : awx x a b c = apw x a b c := if_pos ⟨hr, h16⟩
      rw [if_pos h16, if_neg (by omega), if_neg (by omega), ex]
      refine ⟨e1, fun _ => ?_, fun q => absurd rfl q⟩
      have f6 : ∀ i, apw x a b c 6 i = if i = x 5 1 * 3 + 2 then c else if i = x 5 1 * 3 + 1 then b else if i = x 5 1 * 3 then a else x 6 i := fun i => by
        unfold apw putm
        rw [stm_ne _ _ _ (by decide), stm_at, stm_at, stm_at]
      have g7 : ∀ i, sym z a b c 77 i = if i = 1 then z 77 1 + 1 else if i = 82 + 3 * z 77 1 + 2 then c else if i = 82 + 3 * z 77 1 + 1 then b else if i = 82 + 3 * z 77 1 then a else z 77 i := fun i => by
        unfold sym
        rw [stm_at, stm_at, stm_at, stm_at]
      have fq : ∀ q : Nat, q ≠ 5 → q ≠ 6 → apw x a b c q = x q := fun q q5 q6 => by
        unfold apw putm
        rw [stm_ne _ _ _ q5, stm_ne _ _ _ q6, stm_ne _ _ _ q6, stm_ne _ _ _ q6]
      refine h.words (by rw [fq 2 (by decide) (by decide)]) (fq 3 (by decide) (by decide)) (fq 4 (by decide) (by decide)) (fq 7 (by decide) (by decide)) (by rw [apw_n]; omega) (fun i i1 i2 => ?_) (by rw [g7, if_pos rfl, apw_n, e1]) (fun i j i0 i1 j0 j1 => ?_) (fun i i0 i1 => ?_)
      · rw [g7, if_neg i1, if_neg (by omega), if_neg (by omega), if_neg (by omega)]
      · rw [apw_n] at i1
        rw [f6, g7, ← e1, if_neg (by omega : ¬ 82 + 3 * i + j = 1)]
        by_cases hi : i = x 5 1
        · rw [hi]
          rcases (by omega : j = 0 ∨ j = 1 ∨ j = 2) with rfl | rfl | rfl
          · rw [if_neg (by omega), if_neg (by omega), if_pos (by omega), if_neg (by omega), if_neg (by omega), if_pos (by omega)]
          · rw [if_neg (by omega), if_pos rfl, if_neg (by omega), if_pos rfl]
          · rw [if_pos rfl, if_pos rfl]
        · rw [if_neg (by omega), if_neg (by omega), if_neg (by omega), if_neg (by omega), if_neg (by omega), if_neg (by omega)]
          exact e3 i j i0 (by omega) j0 j1
      · rw [apw_n] at i1
        rw [f6, f6, f6]
        by_cases hi : i = x 5 1
        · rw [hi, if_neg (by omega), if_neg (by omega), if_pos (by omega), if_neg (by omega), if_pos rfl, if_pos rfl]
          exact hr
        · rw [if_neg (by omega), if_neg (by omega), if_neg (by omega), if_neg (by omega), if_neg (by omega), if_neg (by omega), if_neg (by omega), if_neg (by omega), if_neg (by omega)]
          exact o6 i i0 (by omega)
    · have ex : awx x a b c = x := if_neg (fun q => h16 q.2)
      have ec2 : (if z 77 1 = 16 then (-4 : Int) else 0) = -4 := if_pos (by omega)
      rw [if_neg h16, ec2, ex]
      exact ⟨rfl, fun q => absurd q (by decide), fun _ => rfl⟩
  · have ea : awr x a b c = -2 := if_neg hr
    have ex : awx x a b c = x := if_neg (fun q => hr q.1)
    have ec : csy z a b c = -2 := if_neg (by rw [← e0]; exact hr)
    rw [ea, ec, ex]
    exact ⟨rfl, fun q => absurd q (by decide), fun _ => rfl⟩
theorem SE.clears {x z : Mem} (h : SE x z) : SE (stm x 5 1 0) (stm z 77 1 0) := by
  refine h.words (by rw [stm_ne _ _ _ (by decide)]) (stm_ne _ _ _ (by decide)) (stm_ne _ _ _ (by decide)) (stm_ne _ _ _ (by decide)) (by rw [stm_eq]; omega) (fun i i1 i2 => stm_ix _ _ _ i1) (by rw [stm_eq, stm_eq]) (fun i j i0 i1 => ?_) (fun i i0 i1 => ?_)
  · rw [stm_eq] at i1; omega
  · rw [stm_eq] at i1; omega
theorem SE.cuts {x z : Mem} (h : SE x z) {a : Int} (hc : 0 ≤ a ∧ a < x 5 1) : SE (rmw x a) (ctw z a) := by
  have hh := h
  obtain ⟨⟨o1, o2, o3, o4, o5, o6, o7⟩, e0, e1, e2, e3, e4, e5⟩ := hh
  have fq : ∀ q : Nat, q ≠ 5 → q ≠ 6 → rmw x a q = x q := fun q q5 q6 => by
    unfold rmw mvm
    rw [stm_ne _ _ _ q5, sr_ne _ _ q6]
  have f6 : ∀ i, rmw x a 6 i = if a * 3 ≤ i ∧ i < a * 3 + (x 5 1 - 1 - a) * 3 then x 6 ((a + 1) * 3 + (i - a * 3)) else x 6 i := fun i => by
    unfold rmw mvm
    rw [stm_ne _ _ _ (by decide), sr_eq]
    rfl
  have g7 : ∀ i, ctw z a 77 i = if 82 + 3 * a ≤ i ∧ i < 82 + 3 * (z 77 1 - 1) then stm z 77 1 (z 77 1 - 1) 77 (i + 3) else stm z 77 1 (z 77 1 - 1) 77 i := fun i => by
    unfold ctw
    rw [its (f := fun j (x : Mem) => stm x 77 j (x 77 (j + 3))) (q := 77) (a := 3) (b := 0) (fun i x => by rw [Int.zero_add, Int.add_comm 3 i]) _ _ _ (Or.inl (by decide))]
    by_cases hi : 82 + 3 * a ≤ i ∧ i < 82 + 3 * (z 77 1 - 1)
    · rw [if_pos hi, if_pos (by omega)]; exact congrArg _ (by omega)
    · rw [if_neg hi, if_neg (by omega)]
  refine h.words (by rw [fq 2 (by decide) (by decide)]) (fq 3 (by decide) (by decide)) (fq 4 (by decide) (by decide)) (fq 7 (by decide) (by decide)) (by rw [rmw_n]; omega) (fun i i1 i2 => ?_) (by rw [g7, if_neg (by omega), stm_eq, rmw_n, e1]) (fun i j i0 i1 j0 j1 => ?_) (fun i i0 i1 => ?_)
  · rw [g7, if_neg (by omega), stm_ix _ _ _ i1]
  · rw [rmw_n] at i1
    rw [f6, g7, ← e1]
    by_cases hi : i < a
    · rw [if_neg (by omega), if_neg (by omega), stm_ix _ _ _ (by omega)]
      exact e3 i j i0 (by omega) j0 j1
    · rw [if_pos (by omega), if_pos (by omega), stm_ix _ _ _ (by omega), show (a + 1) * 3 + (i * 3 + j - a * 3) = (i + 1) * 3 + j by omega, show 82 + 3 * i + j + 3 = 82 + 3 * (i + 1) + j by omega]
      exact e3 (i + 1) j (by omega) (by omega) j0 j1
  · rw [rmw_n] at i1
    rw [f6, f6, f6]
    by_cases hi : i < a
    · rw [if_neg (by omega), if_neg (by omega), if_neg (by omega)]
      exact o6 i i0 (by omega)
    · rw [if_pos (by omega), if_pos (by omega), if_pos (by omega), show (a + 1) * 3 + (i * 3 + 0 - a * 3) = (i + 1) * 3 + 0 by omega, show (a + 1) * 3 + (i * 3 + 1 - a * 3) = (i + 1) * 3 + 1 by omega, show (a + 1) * 3 + (i * 3 + 2 - a * 3) = (i + 1) * 3 + 2 by omega]
      exact o6 (i + 1) (by omega) (by omega)
/-! a sign goes -/
theorem rnm_6 (x : Mem) (k : Int) (j : Int) : rnm x k 6 j = if (j % 3 = 0 ∧ 0 ≤ j / 3 ∧ j / 3 < x 5 1) ∧ k < x 6 j then x 6 j - 1 else x 6 j := by
  have h := it_Ij (f := fun i (y : Mem) => if k < y 6 (i * 3) then stm y 6 (i * 3) (y 6 (i * 3) - 1) else y) (fun n y => ∀ i w, 0 ≤ w → w ≤ 2 → y 6 (i * 3 + w) = if (w = 0 ∧ 0 ≤ i ∧ i < n) ∧ k < x 6 (i * 3 + w) then x 6 (i * 3 + w) - 1 else x 6 (i * 3 + w)) (x 5 1).toNat 0 x (fun n y a b hy i w w0 w1 => by
    have hn := hy n 0 (by omega) (by omega)
    rw [if_neg (by omega), Int.add_zero] at hn
    have hi := hy i w w0 w1
    try dsimp only
    rw [hn]
    by_cases hin : i = n ∧ w = 0
    · obtain ⟨rfl, rfl⟩ := hin
      rw [Int.add_zero] at hi ⊢
      by_cases hk : k < x 6 (i * 3)
      · rw [if_pos hk, stm_eq, if_pos ⟨⟨rfl, a, by omega⟩, hk⟩]
      · rw [if_neg hk, if_neg (fun q => hk q.2)]; exact hn
    · have e : (if k < x 6 (n * 3) then stm y 6 (n * 3) (x 6 (n * 3) - 1) else y) 6 (i * 3 + w) = y 6 (i * 3 + w) := by
        split
        · exact stm_ix _ _ _ (by omega)
        · rfl
      rw [e, hi]
      by_cases hc : (w = 0 ∧ 0 ≤ i ∧ i < n) ∧ k < x 6 (i * 3 + w)
      · rw [if_pos hc, if_pos ⟨⟨hc.1.1, hc.1.2.1, by omega⟩, hc.2⟩]
      · rw [if_neg hc, if_neg (fun q => hc ⟨⟨q.1.1, q.1.2.1, by omega⟩, q.2⟩)]) (fun i w _ _ => by rw [if_neg (by omega)])
  have h2 := h (j / 3) (j % 3) (by omega) (by omega)
  have e : j / 3 * 3 + j % 3 = j := by omega
  rw [e] at h2
  unfold rnm
  rw [h2]
  by_cases hc : (j % 3 = 0 ∧ 0 ≤ j / 3 ∧ j / 3 < 0 + ((x 5 1).toNat : Int)) ∧ k < x 6 j
  · rw [if_pos hc, if_pos (show (j % 3 = 0 ∧ 0 ≤ j / 3 ∧ j / 3 < x 5 1) ∧ k < x 6 j from ⟨by omega, hc.2⟩)]
  · rw [if_neg hc, if_neg (show ¬ ((j % 3 = 0 ∧ 0 ≤ j / 3 ∧ j / 3 < x 5 1) ∧ k < x 6 j) from fun q => hc ⟨by omega, q.2⟩)]
theorem gos1_at (z : Mem) {k : Int} (i : Int) : gos1 z k 77 i = if 2 + 5 * k ≤ i ∧ i < 2 + 5 * (z 77 0 - 1) then stm z 77 0 (z 77 0 - 1) 77 (i + 5) else stm z 77 0 (z 77 0 - 1) 77 i := by
  unfold gos1
  rw [its (f := fun j (x : Mem) => stm x 77 j (x 77 (j + 5))) (q := 77) (a := 5) (b := 0) (fun i x => by rw [Int.zero_add, Int.add_comm 5 i]) _ _ _ (Or.inl (by decide))]
  by_cases hi : 2 + 5 * k ≤ i ∧ i < 2 + 5 * (z 77 0 - 1)
  · rw [if_pos hi, if_pos (by omega)]; exact congrArg _ (by omega)
  · rw [if_neg hi, if_neg (by omega)]
theorem gos_lo (z : Mem) {k : Int} {i : Int} (h : i < 82 ∨ 130 ≤ i ∨ (i - 82) % 3 ≠ 0) (hc : z 77 1 ≤ 16) : gos z k 77 i = gos1 z k 77 i := by
  unfold gos
  refine it_Ij (f := fun i x => gos2 k i x) (fun n y => y 77 i = gos1 z k 77 i) _ 0 (gos1 z k) (fun n y a b hy => ?_) rfl
  show gos2 k n y 77 i = _
  unfold gos2
  rw [stm_ix _ _ _ (by omega)]
  exact hy
theorem gos_hi (z : Mem) {k : Int} {i : Int} (h : 0 ≤ i ∧ i < z 77 1) : gos z k 77 (82 + 3 * i) = gos1 z k 77 (82 + 3 * i) - (if k < gos1 z k 77 (82 + 3 * i) then 1 else 0) := by
  have hh := it_Ij (f := fun i x => gos2 k i x) (fun n y => ∀ u, y 77 (82 + 3 * u) = if 0 ≤ u ∧ u < n then gos1 z k 77 (82 + 3 * u) - (if k < gos1 z k 77 (82 + 3 * u) then 1 else 0) else gos1 z k 77 (82 + 3 * u)) (z 77 1).toNat 0 (gos1 z k) (fun n y a b hy u => by
    have hn := hy n
    rw [if_neg (by omega)] at hn
    show gos2 k n y 77 (82 + 3 * u) = _
    unfold gos2
    by_cases hu : u = n
    · rw [hu, stm_eq, hn, if_pos (show 0 ≤ n ∧ n < n + 1 by omega)]
    · rw [stm_ix _ _ _ (by omega), hy u]
      by_cases hc : 0 ≤ u ∧ u < n
      · rw [if_pos hc, if_pos (show 0 ≤ u ∧ u < n + 1 by omega)]
      · rw [if_neg hc, if_neg (show ¬ (0 ≤ u ∧ u < n + 1) by omega)]) (fun u => by rw [if_neg (by omega)])
  have := hh i
  rw [if_pos (show 0 ≤ i ∧ i < 0 + ((z 77 1).toNat : Int) by omega)] at this
  exact this
theorem SE.goes {x z : Mem} (h : SE x z) {a : Int} (hc : 0 ≤ a ∧ a < x 2 2) (hco : co x a ≤ 0) : SE (rmm (rnm x a) a) (gos z a) := by
  obtain ⟨⟨o1, o2, o3, o4, o5, o6, o7⟩, e0, e1, e2, e3, e4, e5⟩ := h
  have r2 : rnm x a 2 = x 2 := rnm_2 x a
  have r3 : rnm x a 3 = x 3 := rnm_ne x a (by decide)
  have hn : rmm (rnm x a) a 2 2 = x 2 2 - 1 := by rw [rmm_n, r2]
  have f3 : ∀ i, rmm (rnm x a) a 3 i = if a * 5 ≤ i ∧ i < a * 5 + (x 2 2 - 1 - a) * 5 then x 3 ((a + 1) * 5 + (i - a * 5)) else x 3 i := fun i => by
    unfold rmm
    rw [stm_ne _ _ _ (by decide), sr_eq, r2, r3]
    rfl
  have fq : ∀ q : Nat, q ≠ 2 → q ≠ 3 → rmm (rnm x a) a q = rnm x a q := fun q q2 q3 => by
    unfold rmm
    rw [stm_ne _ _ _ q2, sr_ne _ _ q3]
  have f4 : rmm (rnm x a) a 4 = x 4 := by rw [fq 4 (by decide) (by decide), rnm_ne x a (by decide)]
  have f5 : rmm (rnm x a) a 5 = x 5 := by rw [fq 5 (by decide) (by decide), rnm_ne x a (by decide)]
  have f7 : rmm (rnm x a) a 7 = x 7 := by rw [fq 7 (by decide) (by decide), rnm_ne x a (by decide)]
  have f6 : ∀ i j, 0 ≤ i → i < x 5 1 → 0 ≤ j → j ≤ 2 → rmm (rnm x a) a 6 (i * 3 + j) = if j = 0 ∧ a < x 6 (i * 3 + j) then x 6 (i * 3 + j) - 1 else x 6 (i * 3 + j) := fun i j i0 i1 j0 j1 => by
    rw [fq 6 (by decide) (by decide), rnm_6]
    by_cases hj : j = 0 ∧ a < x 6 (i * 3 + j)
    · rw [if_pos hj, if_pos ⟨by omega, hj.2⟩]
    · rw [if_neg hj, if_neg (fun q => hj ⟨by omega, q.2⟩)]
  -- no word has the sign
  have hne : ∀ i, 0 ≤ i → i < x 5 1 → ¬ x 6 (i * 3 + 0) = a := fun i i0 i1 hia => by
    have hs : co x a = sm (fun i => bp (x 6 (i * 3 + 0) = a)) (x 5 1).toNat := by
      unfold co
      rw [it_cg (g := fun i y => y + bp (x 6 (i * 3 + 0) = a)) _ _ _ (fun i y _ _ => by
        split
        · next hq => rw [bp_t hq]
        · next hq => rw [bp_f hq]; omega), it_sm (fun i => bp (x 6 (i * 3 + 0) = a)), Int.zero_add]
    have := sm_lt (g := fun _ => 0) (h := fun i => bp (x 6 (i * 3 + 0) = a)) (x 5 1).toNat (fun i _ _ => (bp_le _).1) i0 (by omega) (by show 0 < bp (x 6 (i * 3 + 0) = a); rw [bp_t hia]; decide)
    rw [sm_0 _ (fun _ _ _ => rfl), ← hs] at this
    omega
  have g1 : ∀ i, i ≠ 0 → ¬ (2 + 5 * a ≤ i ∧ i < 2 + 5 * (z 77 0 - 1)) → gos1 z a 77 i = z 77 i := fun i i0 i1 => by rw [gos1_at, if_neg i1, stm_ix _ _ _ i0]
  refine ⟨⟨by rw [hn]; omega, by rw [f5]; exact o2, fun k j k0 k1 j0 j1 => ?_, fun k k0 k1 => ?_, by rw [f4]; exact o5, fun i i0 i1 => ?_, by rw [f7]; exact o7⟩, ?_, ?_, fun k j k0 k1 j0 j1 => ?_, fun i j i0 i1 j0 j1 => ?_, fun j j0 j1 => ?_, fun j j0 j1 => ?_⟩
  · rw [hn] at k1
    rw [f3]
    split
    · rw [show (a + 1) * 5 + (k * 5 + j - a * 5) = (k + 1) * 5 + j by omega]; exact o3 (k + 1) j (by omega) (by omega) j0 j1
    · exact o3 k j k0 (by omega) j0 j1
  · rw [hn] at k1
    rw [f3]
    split
    · rw [show (a + 1) * 5 + (k * 5 + 4 - a * 5) = (k + 1) * 5 + 4 by omega]; exact o4 (k + 1) (by omega) (by omega)
    · exact o4 k k0 (by omega)
  · rw [f5] at i1
    rw [f6 i 0 i0 i1 (by omega) (by omega), f6 i 1 i0 i1 (by omega) (by omega), f6 i 2 i0 i1 (by omega) (by omega), hn, if_neg (by omega : ¬ ((1 : Int) = 0 ∧ _)), if_neg (by omega : ¬ ((2 : Int) = 0 ∧ _))]
    have h6 := o6 i i0 i1
    have hn6 := hne i i0 i1
    refine ⟨?_, h6.2⟩
    split <;> omega
  · rw [hn, gos_lo z (by omega) (by omega), gos1_at, if_neg (by omega), stm_eq, e0]
  · rw [f5, gos_lo z (by omega) (by omega), g1 _ (by omega) (by omega)]; exact e1
  · rw [hn] at k1
    rw [f3, gos_lo z (by omega) (by omega), gos1_at, ← e0]
    by_cases hk : k < a
    · rw [if_neg (by omega), if_neg (by omega), stm_ix _ _ _ (by omega)]; exact e2 k j k0 (by omega) j0 j1
    · rw [if_pos (by omega), if_pos (by omega), stm_ix _ _ _ (by omega), show (a + 1) * 5 + (k * 5 + j - a * 5) = (k + 1) * 5 + j by omega, show 2 + 5 * k + j + 5 = 2 + 5 * (k + 1) + j by omega]
      exact e2 (k + 1) j (by omega) (by omega) j0 j1
  · rw [f5] at i1
    rw [f6 i j i0 i1 j0 j1]
    have he := e3 i j i0 i1 j0 j1
    by_cases hj : j = 0
    · rw [hj] at he ⊢
      rw [Int.add_zero (82 + 3 * i)] at he ⊢
      rw [gos_hi z (by omega), g1 _ (by omega) (by omega), ← he]
      split
      · next hq => rw [if_pos hq.2]
      · next hq => rw [if_neg (fun q => hq ⟨rfl, q⟩), Int.sub_zero]
    · rw [if_neg (fun q => hj q.1), gos_lo z (by omega) (by omega), g1 _ (by omega) (by omega)]; exact he
  · rw [f4, gos_lo z (by omega) (by omega), g1 _ (by omega) (by omega)]; exact e4 j j0 j1
  · rw [f7, gos_lo z (by omega) (by omega), g1 _ (by omega) (by omega)]; exact e5 j j0 j1
theorem q_co2 {x z : Mem} (h : SE x z) (k : Int) : co x k = wdw z k := by
  obtain ⟨-, e0, e1, e2, e3, e4, e5⟩ := h
  unfold co wdw
  rw [← e1]
  refine it_cg _ _ _ (fun i y a b => ?_)
  have := e3 i 0 a (by omega) (by omega) (by omega)
  rw [Int.add_zero, Int.add_zero] at this
  rw [Int.add_zero, this]
  split <;> omega
theorem SE.drops {x z : Mem} (h : SE x z) (a : Int) : dpr x a = (if cnd z a < 0 then cnd z a else z 77 0 - 1) ∧ (cnd z a = 0 → 0 ≤ dpr x a ∧ SE (dpx x a) (gos z a)) ∧ (¬ cnd z a = 0 → dpx x a = x) := by
  have o1 := h.1.1
  have e0 := h.2.1
  have hq := q_co2 h a
  have nn := co_nn x a
  have e1 : cnd z a = if 0 ≤ a ∧ a < x 2 2 then (if 0 < co x a then -3 else 0) else -2 := by unfold cnd; rw [← hq, ← e0]
  by_cases hr : 0 ≤ a ∧ a < x 2 2
  · have e2 : dpr x a = if 0 < co x a then -3 else x 2 2 - 1 := if_pos hr
    rw [if_pos hr] at e1
    by_cases hc : 0 < co x a
    · rw [if_pos hc] at e1 e2
      have e3 : dpx x a = x := if_neg (fun q => by have := q.2; omega)
      rw [e1, e2, e3]
      exact ⟨rfl, fun q => absurd q (by decide), fun _ => rfl⟩
    · rw [if_neg hc] at e1 e2
      have e3 : dpx x a = rmm (rnm x a) a := if_pos ⟨hr, by omega⟩
      rw [e1, e2, e3, ← e0]
      exact ⟨rfl, fun _ => ⟨by omega, h.goes hr (by omega)⟩, fun q => absurd rfl q⟩
  · rw [if_neg hr] at e1
    have e2 : dpr x a = -2 := if_neg hr
    have e3 : dpx x a = x := if_neg (fun q => hr q.1)
    rw [e1, e2, e3]
    exact ⟨rfl, fun q => absurd q (by decide), fun _ => rfl⟩
