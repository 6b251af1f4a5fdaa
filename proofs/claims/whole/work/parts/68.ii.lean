/-! ===== all positions at once ===== -/
theorem sm_swap (g : Int → Int → Int) (a : Nat) : ∀ b : Nat, sm (fun v => sm (fun s => g v s) a) b = sm (fun s => sm (fun v => g v s) b) a
  | 0 => (sm_0 a (fun _ _ _ => rfl)).symm
  | b + 1 => by
    show sm (fun v => sm (fun s => g v s) a) b + sm (fun s => g (b : Int) s) a = sm (fun s => sm (fun v => g v s) b + g (b : Int) s) a
    rw [sm_add, sm_swap g a b]
theorem sm_1 (n : Nat) : sm (fun _ => 1) n = n := by
  induction n with
  | zero => rfl
  | succ n ih => show sm (fun _ => 1) n + 1 = _; rw [ih]; omega
theorem pig (f : Int → Int) : ((∀ s, 0 ≤ s → s ≤ 5 → 0 ≤ f s ∧ f s ≤ 5) ∧ ∀ s t, 0 ≤ s → s ≤ 5 → 0 ≤ t → t ≤ 5 → f s = f t → s = t) ↔ ∀ v, 0 ≤ v → v ≤ 5 → ∃ s, 0 ≤ s ∧ s ≤ 5 ∧ f s = v := by
  have hT : sm (fun v => sm (fun s => bp (f s = v)) 6) 6 = sm (fun s => bp (0 ≤ f s ∧ f s ≤ 5)) 6 := by
    rw [sm_swap (fun v s => bp (f s = v)) 6 6]
    refine sm_cg 6 (fun s _ _ => ?_)
    by_cases hs : 0 ≤ f s ∧ f s ≤ 5
    · rw [sm_one (g := fun v => bp (f s = v)) (k := f s) 6 hs.1 (by omega) (fun i _ _ hne => bp_f (fun q => hne q.symm)), bp_t rfl, bp_t hs]
    · rw [bp_f hs]
      exact sm_0 6 (fun i i0 i1 => bp_f (fun q => hs (by omega)))
  have h6 : sm (fun _ => 1) 6 = 6 := sm_1 6
  constructor
  · rintro ⟨h1, h2⟩ v v0 v1
    refine Classical.byContradiction (fun hc => ?_)
    have hle : ∀ w : Int, 0 ≤ w → w < (6 : Nat) → sm (fun s => bp (f s = w)) 6 ≤ 1 := fun w _ _ => by
      by_cases hw : ∃ s, 0 ≤ s ∧ s ≤ 5 ∧ f s = w
      · obtain ⟨s, s0, s1, s2⟩ := hw
        rw [sm_one (k := s) 6 s0 (by omega) (fun i i0 i1 hne => bp_f (fun q => hne (h2 i s i0 (by omega) s0 s1 (q.trans s2.symm))))]
        exact (bp_le _).2
      · rw [sm_0 6 (fun i i0 i1 => bp_f (fun q => hw ⟨i, i0, by omega, q⟩))]; decide
    have hlt := sm_lt (g := fun v => sm (fun s => bp (f s = v)) 6) (h := fun _ => 1) 6 hle v0 (by omega) (by
      show sm (fun s => bp (f s = v)) 6 < 1
      rw [sm_0 6 (fun i i0 i1 => bp_f (fun q => hc ⟨i, i0, by omega, q⟩))]; decide)
    have he : sm (fun s => bp (0 ≤ f s ∧ f s ≤ 5)) 6 = sm (fun _ => 1) 6 := sm_cg 6 (fun i i0 i1 => bp_t (h1 i i0 (by omega)))
    omega
  · intro h
    have hge : ∀ w : Int, 0 ≤ w → w < (6 : Nat) → 1 ≤ sm (fun s => bp (f s = w)) 6 := fun w w0 w1 => by
      obtain ⟨s, s0, s1, s2⟩ := h w w0 (by omega)
      have := sm_lt (g := fun _ => 0) (h := fun s => bp (f s = w)) 6 (fun i _ _ => (bp_le _).1) s0 (by omega) (by show 0 < bp (f s = w); rw [bp_t s2]; decide)
      rw [sm_0 6 (fun _ _ _ => rfl)] at this
      omega
    have hA := sm_le (g := fun _ => 1) (h := fun v => sm (fun s => bp (f s = v)) 6) 6 hge
    have hB := sm_le (g := fun s => bp (0 ≤ f s ∧ f s ≤ 5)) (h := fun _ => 1) 6 (fun i _ _ => (bp_le _).2)
    have hr : ∀ s, 0 ≤ s → s ≤ 5 → 0 ≤ f s ∧ f s ≤ 5 := fun s s0 s1 => Classical.byContradiction (fun hc => by
      have := sm_lt (g := fun s => bp (0 ≤ f s ∧ f s ≤ 5)) (h := fun _ => 1) 6 (fun i _ _ => (bp_le _).2) s0 (by omega) (by show bp (0 ≤ f s ∧ f s ≤ 5) < 1; rw [bp_f hc]; decide)
      omega)
    refine ⟨hr, fun s t s0 s1 t0 t1 he => Classical.byContradiction (fun hne => ?_)⟩
    have hfs := hr s s0 s1
    have h2 : 1 < sm (fun u => bp (f u = f s)) 6 := by
      have := sm_lt (g := fun u => bp (u = s)) (h := fun u => bp (f u = f s)) 6 (fun i _ _ => bp_mono (fun q => by rw [q])) t0 (by omega) (by show bp (t = s) < bp (f t = f s); rw [bp_f (fun q => hne q.symm), bp_t he.symm]; decide)
      rw [sm_one (g := fun u => bp (u = s)) (k := s) 6 s0 (by omega) (fun i _ _ q => bp_f q), bp_t rfl] at this
      exact this
    have := sm_lt (g := fun _ => 1) (h := fun v => sm (fun s => bp (f s = v)) 6) 6 hge hfs.1 (by omega) h2
    omega
theorem all63 : ∀ y : Nat, y < 64 → (∀ i : Nat, i < 6 → y.testBit i = true) → y = 63 := by decide
theorem bt63 : ∀ i : Nat, i < 6 → (63 : Nat).testBit i = true := by decide
theorem las_63 (z : Mem) (a : Int) : las z a = 63 ↔ ∀ v, 0 ≤ v → v ≤ 5 → ∃ s, 0 ≤ s ∧ s ≤ 5 ∧ z 84 (a + s) = v := by
  have h := it_Ij (f := fun s x => io x (if 0 ≤ z 84 (a + s) ∧ z 84 (a + s) ≤ 5 then 1 * 2 ^ (z 84 (a + s)).toNat else 0)) (fun n y => 0 ≤ y ∧ ∀ i, 0 ≤ i → i ≤ 5 → (bt y i ↔ ∃ s, 0 ≤ s ∧ s < n ∧ z 84 (a + s) = i)) 6 0 0 (fun n y c d hy => by
    refine ⟨io_nn _ _, fun i i0 i1 => ?_⟩
    try dsimp only
    by_cases hr : 0 ≤ z 84 (a + n) ∧ z 84 (a + n) ≤ 5
    · rw [if_pos hr, bt_io hy.1 (by have := pw5 hr; omega), bt_pw hr.1 i0, hy.2 i i0 i1]
      constructor
      · rintro (⟨s, s0, s1, s2⟩ | q)
        · exact ⟨s, s0, by omega, s2⟩
        · exact ⟨n, c, by omega, q⟩
      · rintro ⟨s, s0, s1, s2⟩
        by_cases hs : s = n
        · rw [hs] at s2; exact Or.inr s2
        · exact Or.inl ⟨s, s0, by omega, s2⟩
    · rw [if_neg hr, io_0 hy.1, hy.2 i i0 i1]
      constructor
      · rintro ⟨s, s0, s1, s2⟩; exact ⟨s, s0, by omega, s2⟩
      · rintro ⟨s, s0, s1, s2⟩
        by_cases hs : s = n
        · rw [hs] at s2; exact absurd ⟨by omega, by omega⟩ hr
        · exact ⟨s, s0, by omega, s2⟩) ⟨Int.le_refl _, fun i _ _ => ⟨fun q => absurd q (bt_0 i), fun q => by obtain ⟨s, s0, s1, _⟩ := q; omega⟩⟩
  have h2 : 0 ≤ las z a ∧ ∀ i, 0 ≤ i → i ≤ 5 → (bt (las z a) i ↔ ∃ s, 0 ≤ s ∧ s < 0 + ((6 : Nat) : Int) ∧ z 84 (a + s) = i) := h
  have hl := las_le z a
  constructor
  · intro q v v0 v1
    obtain ⟨s, s0, s1, s2⟩ := (h2.2 v v0 v1).mp (by
      rw [q, bt_tb (by decide)]
      exact bt63 v.toNat (by omega))
    exact ⟨s, s0, by omega, s2⟩
  · intro q
    have := all63 (las z a).toNat (by omega) (fun i hi => by
      obtain ⟨s, s0, s1, s2⟩ := q (i : Int) (by omega) (by omega)
      have := (bt_tb hl.1 (i : Int)).mp ((h2.2 (i : Int) (by omega) (by omega)).mpr ⟨s, s0, by omega, s2⟩)
      rw [Int.toNat_natCast] at this
      exact this)
    omega
theorem lac_0 (x : Mem) (o : Int) : ∀ (k : Nat) (s t : Int), 0 ≤ t → (lac x o k s t = 0 ↔ (∀ u, s ≤ u → u < s + k → (0 ≤ nmb x o u ∧ nmb x o u ≤ 5) ∧ ¬ bt t (nmb x o u)) ∧ ∀ u v, s ≤ u → u < s + k → s ≤ v → v < s + k → nmb x o u = nmb x o v → u = v)
  | 0, s, t, ht => ⟨fun _ => ⟨fun u a b => by omega, fun u v a b => by omega⟩, fun _ => rfl⟩
  | k + 1, s, t, ht => by
    unfold lac
    split
    · next hc =>
      refine ⟨fun q => by omega, fun q => ?_⟩
      have := q.1 s (by omega) (by omega)
      rcases hc with hc | hc
      · exact absurd this.1 hc
      · exact absurd hc this.2
    · next hc =>
      have hr : 0 ≤ nmb x o s ∧ nmb x o s ≤ 5 := Classical.byContradiction (fun q => hc (Or.inl q))
      have hb : ¬ bt t (nmb x o s) := fun q => hc (Or.inr q)
      have p0 : 0 ≤ (1 : Int) * 2 ^ (nmb x o s).toNat := by have := pw5 hr; omega
      rw [lac_0 x o k (s + 1) _ (io_nn _ _)]
      have hbt : ∀ v, 0 ≤ v → (bt (io t (1 * 2 ^ (nmb x o s).toNat)) v ↔ bt t v ∨ nmb x o s = v) := fun v v0 => by rw [bt_io ht p0, bt_pw hr.1 v0]
      constructor
      · rintro ⟨q1, q2⟩
        refine ⟨fun u u0 u1 => ?_, fun u v u0 u1 v0 v1 he => ?_⟩
        · by_cases hu : u = s
          · rw [hu]; exact ⟨hr, hb⟩
          · have := q1 u (by omega) (by omega)
            exact ⟨this.1, fun q => this.2 ((hbt _ this.1.1).mpr (Or.inl q))⟩
        · by_cases hu : u = s
          · by_cases hv : v = s
            · omega
            · have := q1 v (by omega) (by omega)
              rw [hu] at he
              exact absurd ((hbt _ this.1.1).mpr (Or.inr he)) this.2
          · by_cases hv : v = s
            · have := q1 u (by omega) (by omega)
              rw [hv] at he
              exact absurd ((hbt _ this.1.1).mpr (Or.inr he.symm)) this.2
            · exact q2 u v (by omega) (by omega) (by omega) (by omega) he
      · rintro ⟨q1, q2⟩
        refine ⟨fun u u0 u1 => ?_, fun u v u0 u1 v0 v1 he => q2 u v (by omega) (by omega) (by omega) (by omega) he⟩
        have := q1 u (by omega) (by omega)
        refine ⟨this.1, fun q => ?_⟩
        rcases (hbt _ this.1.1).mp q with q | q
        · exact this.2 q
        · have := q2 s u (by omega) (by omega) (by omega) (by omega) q
          omega
theorem lam_7 (x : Mem) (o : Int) : (∀ q : Nat, q ≠ 7 → lam x o q = x q) ∧ ∀ s, 0 ≤ s → s ≤ 5 → lam x o 7 s = nmb x o s := by
  have h := it_Ij (f := fun s (y : Mem) => stm y 7 s (nmb y o s)) (fun n y => (∀ q : Nat, q ≠ 7 → y q = x q) ∧ ∀ s, 0 ≤ s → s < n → y 7 s = nmb x o s) 6 0 x (fun n y a b hy => by
    refine ⟨fun q hq => (stm_ne _ _ _ hq).trans (hy.1 q hq), fun s s0 s1 => ?_⟩
    have e : nmb y o n = nmb x o n := by unfold nmb; rw [hy.1 55 (by decide), hy.1 56 (by decide)]
    try dsimp only
    rw [stm_at, e]
    by_cases hs : s = n
    · rw [if_pos hs, hs]
    · rw [if_neg hs]; exact hy.2 s s0 (by omega)) ⟨fun _ _ => rfl, fun s s0 s1 => by omega⟩
  exact ⟨h.1, fun s s0 s1 => h.2 s s0 (by omega)⟩
theorem lcm_7 (z : Mem) (a : Int) : (∀ i, i < 134 ∨ 140 ≤ i → lcm_ z a 77 i = z 77 i) ∧ ∀ s, 0 ≤ s → s ≤ 5 → lcm_ z a 77 (134 + s) = z 84 (a + s) := by
  have h := it_Ij (f := fun s (x : Mem) => stm x 77 (134 + s) (x 84 (a + s))) (fun n y => y 84 = z 84 ∧ (∀ i, i < 134 ∨ 140 ≤ i → y 77 i = z 77 i) ∧ ∀ s, 0 ≤ s → s < n → y 77 (134 + s) = z 84 (a + s)) 6 0 z (fun n y c d hy => by
    refine ⟨(stm_ne _ _ _ (by decide)).trans hy.1, fun i hi => (stm_ix _ _ _ (by omega)).trans (hy.2.1 i hi), fun s s0 s1 => ?_⟩
    try dsimp only
    rw [stm_at, hy.1]
    by_cases hs : s = n
    · rw [hs, if_pos rfl]
    · rw [if_neg (by omega)]; exact hy.2.2 s s0 (by omega)) ⟨rfl, fun _ _ => rfl, fun s s0 s1 => by omega⟩
  exact ⟨h.2.1, fun s s0 s1 => h.2.2 s s0 (by omega)⟩
theorem SE.layAll {x z : Mem} (h : SE x z) {o : Int} (hn : ∀ s, 0 ≤ s → s ≤ 5 → nmb x o s = z 84 (6 * o + s)) : (las z (6 * o) = 63 → lac x o 6 0 0 = 0 ∧ SE (lax x o) (lax_ z (6 * o))) ∧ (¬ las z (6 * o) = 63 → lac x o 6 0 0 = -2 ∧ lax x o = x) := by
  have hp := pig (fun s => nmb x o s)
  have hl := lac_0 x o 6 0 0 (Int.le_refl _)
  have hs : las z (6 * o) = 63 ↔ ∀ v, 0 ≤ v → v ≤ 5 → ∃ s, 0 ≤ s ∧ s ≤ 5 ∧ nmb x o s = v := by
    rw [las_63]
    constructor
    · intro q v v0 v1
      obtain ⟨s, s0, s1, s2⟩ := q v v0 v1
      exact ⟨s, s0, s1, by rw [hn s s0 s1]; exact s2⟩
    · intro q v v0 v1
      obtain ⟨s, s0, s1, s2⟩ := q v v0 v1
      exact ⟨s, s0, s1, by rw [← hn s s0 s1]; exact s2⟩
  have key : lac x o 6 0 0 = 0 ↔ las z (6 * o) = 63 := by
    rw [hs, ← hp, hl]
    constructor
    · rintro ⟨q1, q2⟩
      exact ⟨fun s s0 s1 => (q1 s s0 (by omega)).1, fun s t s0 s1 t0 t1 he => q2 s t s0 (by omega) t0 (by omega) he⟩
    · rintro ⟨q1, q2⟩
      exact ⟨fun s s0 s1 => ⟨q1 s s0 (by omega), bt_0 _⟩, fun s t s0 s1 t0 t1 he => q2 s t s0 (by omega) t0 (by omega) he⟩
  refine ⟨fun q => ?_, fun q => ?_⟩
  · have e0 := key.mpr q
    refine ⟨e0, ?_⟩
    have e1 : lax x o = lam x o := if_pos e0
    have e2 : lax_ z (6 * o) = lcm_ z (6 * o) := if_pos q
    rw [e1, e2]
    obtain ⟨l1, l2⟩ := lam_7 x o
    obtain ⟨c1, c2⟩ := lcm_7 z (6 * o)
    have hq := hs.mp q
    have hi := hp.mpr hq
    refine h.pos l1 (fun i hi => c1 i (Or.inl hi)) (fun s s0 s1 => by rw [l2 s s0 s1, c2 s s0 s1]; exact hn s s0 s1) ⟨fun s s0 s1 => by rw [l2 s s0 s1]; exact hi.1 s s0 s1, fun s t s0 s1 t0 t1 he => hi.2 s t s0 s1 t0 t1 (by rw [l2 s s0 s1, l2 t t0 t1] at he; exact he), fun v v0 v1 => ?_⟩
    obtain ⟨s, s0, s1, s2⟩ := hq v v0 v1
    exact ⟨s, s0, s1, by rw [l2 s s0 s1]; exact s2⟩
  · have hne : ¬ lac x o 6 0 0 = 0 := fun e => q (key.mp e)
    rcases lac_02 x o 6 0 0 with e | e
    · exact absurd e hne
    · exact ⟨e, if_neg hne⟩
