/-! ===== the best arrangement ===== -/
def at_ (p : List Int) (s : Int) : Int := p.getD s.toNat 0
theorem at_lt (p : List Int) (v : Int) {u : Int} (u0 : 0 ≤ u) (u1 : u < p.length) : at_ (p ++ [v]) u = at_ p u := by
  unfold at_
  rw [List.getD_eq_getElem?_getD, List.getD_eq_getElem?_getD, List.getElem?_append_left (by omega)]
theorem at_eq (p : List Int) (v : Int) {u : Int} (u1 : u = p.length) : at_ (p ++ [v]) u = v := by
  unfold at_
  rw [u1, Int.toNat_natCast, List.getD_eq_getElem?_getD, List.getElem?_append_right (Nat.le_refl _)]
  simp
theorem at_cons (a : Int) (l : List Int) {u : Int} (u1 : 1 ≤ u) : at_ (a :: l) u = at_ l (u - 1) := by
  unfold at_
  rw [show u.toNat = (u - 1).toNat + 1 by omega]
  rfl
def lv6 : Nat → Int → List Int → List (List Int)
  | 0, _, p => [p]
  | k + 1, t, p => it (fun v L => L ++ (if ia (t / 2 ^ v.toNat) 1 = 0 then lv6 k (io t (1 * 2 ^ v.toNat)) (p ++ [v]) else [])) 0 6 []
theorem fold_it {α β : Type} (f : β → α → β) (g : Int → List α) (x : β) : ∀ n : Nat, List.foldl f x (it (fun v L => L ++ g v) 0 n []) = it (fun v y => List.foldl f y (g v)) 0 n x
  | 0 => rfl
  | n + 1 => by rw [it_succ, it_succ, List.foldl_append, fold_it f g x n]
theorem mem_it {α : Type} (g : Int → List α) (a : α) : ∀ n : Nat, a ∈ it (fun v L => L ++ g v) 0 n [] ↔ ∃ v : Int, 0 ≤ v ∧ v < n ∧ a ∈ g v
  | 0 => ⟨fun h => absurd h List.not_mem_nil, fun h => by obtain ⟨v, v0, v1, _⟩ := h; omega⟩
  | n + 1 => by
    rw [it_succ, List.mem_append, mem_it g a n, Int.zero_add]
    constructor
    · rintro (⟨v, v0, v1, v2⟩ | h)
      · exact ⟨v, v0, by omega, v2⟩
      · exact ⟨n, by omega, by omega, h⟩
    · rintro ⟨v, v0, v1, v2⟩
      by_cases hv : v = n
      · rw [hv] at v2; exact Or.inr v2
      · exact Or.inl ⟨v, v0, by omega, v2⟩
theorem fold_rg {α β : Type} (f : β → α → β) (g : Int → α) (x : β) : ∀ n : Nat, List.foldl f x ((List.range n).map (fun k : Nat => g (k : Int))) = it (fun k y => f y (g k)) 0 n x
  | 0 => rfl
  | n + 1 => by rw [List.range_succ, List.map_append, List.foldl_append, fold_rg f g x n, it_succ, Int.zero_add]; rfl
def stp (M : Int → Int) (s : Int × List Int) (p : List Int) : Int × List Int := if cst M (at_ p) 6 < s.1 then (cst M (at_ p) 6, p) else s
theorem fold_id {M : Int → Int} {b : Int} {q : List Int} : ∀ L : List (List Int), (∀ p ∈ L, b ≤ cst M (at_ p) 6) → List.foldl (stp M) (b, q) L = (b, q)
  | [], _ => rfl
  | p :: L, h => by
    have e : stp M (b, q) p = (b, q) := if_neg (by have := h p List.mem_cons_self; show ¬ cst M (at_ p) 6 < b; omega)
    rw [List.foldl_cons, e]
    exact fold_id L (fun p hp => h p (List.mem_cons_of_mem _ hp))
theorem fold_min {M : Int → Int} : ∀ (L : List (List Int)) (s : Int × List Int), (List.foldl (stp M) s L).1 ≤ s.1 ∧ (∀ p ∈ L, (List.foldl (stp M) s L).1 ≤ cst M (at_ p) 6) ∧ (List.foldl (stp M) s L = s ∨ ∃ p ∈ L, List.foldl (stp M) s L = (cst M (at_ p) 6, p))
  | [], s => ⟨Int.le_refl _, fun p hp => absurd hp List.not_mem_nil, Or.inl rfl⟩
  | p :: L, s => by
    rw [List.foldl_cons]
    obtain ⟨h1, h2, h3⟩ := fold_min (M := M) L (stp M s p)
    have e : (stp M s p).1 ≤ s.1 ∧ (stp M s p).1 ≤ cst M (at_ p) 6 ∧ (stp M s p = s ∨ stp M s p = (cst M (at_ p) 6, p)) := by
      unfold stp
      split
      · next hc => exact ⟨by show cst M (at_ p) 6 ≤ s.1; omega, Int.le_refl _, Or.inr rfl⟩
      · next hc => exact ⟨Int.le_refl _, by omega, Or.inl rfl⟩
    refine ⟨by omega, fun p' hp => ?_, ?_⟩
    · rcases List.mem_cons.mp hp with rfl | hp
      · omega
      · exact h2 p' hp
    · rcases h3 with h3 | ⟨p', h3, h4⟩
      · rcases e.2.2 with e2 | e2
        · exact Or.inl (h3.trans e2)
        · exact Or.inr ⟨p, List.mem_cons_self, h3.trans e2⟩
      · exact Or.inr ⟨p', List.mem_cons_of_mem _ h3, h4⟩
theorem cst_cg {M : Int → Int} {q r : Int → Int} (n : Nat) (h : ∀ u : Int, 0 ≤ u → u < n → q u = r u) : cst M q n = cst M r n := by
  unfold cst
  refine sm_cg _ (fun u u0 u1 => sm_cg _ (fun t t0 t1 => ?_))
  rw [h u u0 u1, h t t0 (by omega)]
theorem cst_app (M : Int → Int) (p : List Int) (v : Int) : cst M (at_ (p ++ [v])) (p.length + 1) = cst M (at_ p) p.length + sm (fun t => M ((p.length : Int) * 6 + t) * ab (v - at_ p t)) p.length := by
  have e : cst M (at_ (p ++ [v])) (p.length + 1) = cst M (at_ (p ++ [v])) p.length + sm (fun t => M ((p.length : Int) * 6 + t) * ab (at_ (p ++ [v]) (p.length : Int) - at_ (p ++ [v]) t)) ((p.length : Int)).toNat := rfl
  rw [e, cst_cg p.length (fun u u0 u1 => at_lt p v u0 u1), at_eq p v rfl, Int.toNat_natCast]
  refine congrArg _ (sm_cg _ (fun t t0 t1 => ?_))
  rw [at_lt p v t0 t1]
theorem cst_ge {M : Int → Int} (hM : ∀ i, 0 ≤ i → i < 36 → 0 ≤ M i) : ∀ (k : Nat) (t : Int) (p : List Int), p.length + k = 6 → ∀ p' ∈ lv6 k t p, cst M (at_ p) p.length ≤ cst M (at_ p') 6
  | 0, t, p, hl, p', hp => by
    have : p' = p := List.mem_singleton.mp hp
    rw [this, show p.length = 6 by omega]
    exact Int.le_refl _
  | k + 1, t, p, hl, p', hp => by
    obtain ⟨v, v0, v1, v2⟩ := (mem_it (fun v => if ia (t / 2 ^ v.toNat) 1 = 0 then lv6 k (io t (1 * 2 ^ v.toNat)) (p ++ [v]) else []) p' 6).mp hp
    try dsimp only at v2
    split at v2
    · have h1 := cst_ge hM k _ (p ++ [v]) (by rw [List.length_append]; simp; omega) p' v2
      rw [List.length_append, show p.length + [v].length = p.length + 1 from rfl, cst_app] at h1
      have h2 : 0 ≤ sm (fun t => M ((p.length : Int) * 6 + t) * ab (v - at_ p t)) p.length := sm_nn _ (fun i i0 i1 => Int.mul_nonneg (hM _ (by omega) (by omega)) (by unfold ab; split <;> omega))
      omega
    · exact absurd v2 List.not_mem_nil
theorem pf_fold {M : Int → Int} (hM : ∀ i, 0 ≤ i → i < 36 → 0 ≤ M i) : ∀ (k : Nat) (s t l : Int) (m : Mem) (p q : List Int), (p.length : Int) = s → s + k = 6 → m 67 = M → (∀ u, 0 ≤ u → u < s → m 68 u = at_ p u) → l = cst M (at_ p) p.length → (∀ u, 0 ≤ u → u ≤ 5 → m 69 u = at_ q u) → pfm k s t l m 66 3 = (List.foldl (stp M) (m 66 3, q) (lv6 k t p)).1 ∧ (∀ u, 0 ≤ u → u ≤ 5 → pfm k s t l m 69 u = at_ (List.foldl (stp M) (m 66 3, q) (lv6 k t p)).2 u) ∧ pfm k s t l m 67 = M ∧ ∀ u, u < s → pfm k s t l m 68 u = m 68 u
  | 0, s, t, l, m, p, q, hp, hs, h67, h68, hl, h69 => by
    have e6 : p.length = 6 := by omega
    rw [e6] at hl
    have ef : List.foldl (stp M) (m 66 3, q) (lv6 0 t p) = stp M (m 66 3, q) p := rfl
    rw [ef]
    unfold pfm stp
    dsimp only
    rw [← hl]
    split
    · next hc =>
      rw [if_neg (by omega)]
      exact ⟨rfl, h69, h67, fun u _ => rfl⟩
    · next hc =>
      rw [if_pos (by omega)]
      refine ⟨?_, fun u u0 u1 => ?_, ?_, fun u hu => ?_⟩
      · rw [sr_ne _ _ (by decide), stm_eq]
      · rw [sr_eq]
        unfold cpr
        rw [if_pos (by omega), stm_ne _ _ _ (by decide), show 0 + (u - 0) = u by omega]
        exact h68 u u0 (by omega)
      · rw [sr_ne _ _ (by decide), stm_ne _ _ _ (by decide)]; exact h67
      · rw [sr_ne _ _ (by decide), stm_ne _ _ _ (by decide)]
  | k + 1, s, t, l, m, p, q, hp, hs, h67, h68, hl, h69 => by
    unfold pfm
    split
    · next hc =>
      rw [fold_id (lv6 (k + 1) t p) (fun p' hp' => by have := cst_ge hM (k + 1) t p (by omega) p' hp'; omega)]
      exact ⟨rfl, h69, h67, fun u _ => rfl⟩
    · next hc =>
      have ef : List.foldl (stp M) (m 66 3, q) (lv6 (k + 1) t p) = it (fun v y => List.foldl (stp M) y (if ia (t / 2 ^ v.toNat) 1 = 0 then lv6 k (io t (1 * 2 ^ v.toNat)) (p ++ [v]) else [])) 0 6 (m 66 3, q) := fold_it (stp M) (fun v => if ia (t / 2 ^ v.toNat) 1 = 0 then lv6 k (io t (1 * 2 ^ v.toNat)) (p ++ [v]) else []) (m 66 3, q) 6
      rw [ef]
      have hr := it_rel (f := fun v (x : Mem) => if ia (t / 2 ^ v.toNat) 1 = 0 then pfm k (s + 1) (io t (1 * 2 ^ v.toNat)) (l + ltm (stm x 68 s v) s) (stm x 68 s v) else x) (g := fun v (y : Int × List Int) => List.foldl (stp M) y (if ia (t / 2 ^ v.toNat) 1 = 0 then lv6 k (io t (1 * 2 ^ v.toNat)) (p ++ [v]) else [])) (fun _ X Y => X 66 3 = Y.1 ∧ (∀ u, 0 ≤ u → u ≤ 5 → X 69 u = at_ Y.2 u) ∧ X 67 = M ∧ ∀ u, u < s → X 68 u = m 68 u) 6 0 m (m 66 3, q) (fun v X Y a b hR => by
        obtain ⟨r1, r2, r3, r4⟩ := hR
        try dsimp only
        by_cases hb : ia (t / 2 ^ v.toNat) 1 = 0
        · rw [if_pos hb, if_pos hb]
          have hlt : ltm (stm X 68 s v) s = sm (fun t => M ((p.length : Int) * 6 + t) * ab (v - at_ p t)) p.length := by
            unfold ltm
            rw [it_sm (fun t => stm X 68 s v 67 (s * 6 + t) * ab (stm X 68 s v 68 s - stm X 68 s v 68 t)), Int.zero_add, show s.toNat = p.length by omega]
            refine sm_cg _ (fun i i0 i1 => ?_)
            rw [stm_ne _ _ _ (by decide), r3, stm_eq, stm_ix _ _ _ (by omega), r4 i (by omega), h68 i i0 (by omega), hp]
          have ih := pf_fold hM k (s + 1) (io t (1 * 2 ^ v.toNat)) (l + ltm (stm X 68 s v) s) (stm X 68 s v) (p ++ [v]) Y.2 (by rw [List.length_append]; simp; omega) (by omega) (by rw [stm_ne _ _ _ (by decide)]; exact r3) (fun u u0 u1 => by
            by_cases hu : u = s
            · rw [hu, stm_eq, at_eq p v hp.symm]
            · rw [stm_ix _ _ _ hu, at_lt p v u0 (by omega), r4 u (by omega)]; exact h68 u u0 (by omega)) (by
            rw [List.length_append, show p.length + [v].length = p.length + 1 from rfl, cst_app, hlt, hl]) (fun u u0 u1 => by rw [stm_ne _ _ _ (by decide)]; exact r2 u u0 u1)
          have e66 : stm X 68 s v 66 3 = Y.1 := by rw [stm_ne _ _ _ (by decide)]; exact r1
          rw [e66] at ih
          refine ⟨ih.1, ih.2.1, ih.2.2.1, fun u hu => ?_⟩
          rw [ih.2.2.2 u (by omega), stm_ix _ _ _ (by omega)]
          exact r4 u hu
        · rw [if_neg hb, if_neg hb]
          exact ⟨r1, r2, r3, r4⟩) ⟨rfl, h69, h67, fun u _ => rfl⟩
      exact hr
/-! the reference's arrangements -/
def ptl : Nat → Int → Int × Int → List Int
  | 0, _, _ => []
  | c + 1, s, y => tvv s y :: ptl c (s + 1) (tr1 s y)
theorem trl : ∀ (c : Nat) (s : Int) (y : Int × Int) (m : Mem) (u : Int), (it (fun s x => trf s x) s c (y, m)).2 80 u = if s ≤ u ∧ u < s + c then at_ (ptl c s y) (u - s) else m 80 u
  | 0, s, y, m, u => by rw [if_neg (by omega)]; rfl
  | c + 1, s, y, m, u => by
    show (it (fun s x => trf s x) (s + 1) c (tr1 s y, stm m 80 s (tvv s y))).2 80 u = _
    rw [trl c (s + 1) (tr1 s y) (stm m 80 s (tvv s y)) u]
    by_cases hu : u = s
    · rw [if_neg (by omega), if_pos (by omega), hu, stm_eq, Int.sub_self]; rfl
    · by_cases hc : s + 1 ≤ u ∧ u < s + 1 + c
      · rw [if_pos hc, if_pos (by omega)]
        show _ = at_ (tvv s y :: ptl c (s + 1) (tr1 s y)) (u - s)
        rw [at_cons _ _ (by omega), show u - s - 1 = u - (s + 1) by omega]
      · rw [if_neg hc, if_neg (by omega), stm_ix _ _ _ hu]
theorem trm_80 (k : Int) (m : Mem) {s : Int} (s0 : 0 ≤ s) (s1 : s ≤ 5) : trm k m 80 s = at_ (ptl 6 0 (k, 63)) s := by
  have h := trl 6 0 (k, 63) m s
  rw [if_pos (by omega), Int.sub_zero] at h
  exact h
set_option maxRecDepth 100000 in
theorem tab720 : lv6 6 0 [] = (List.range 720).map (fun k : Nat => ptl 6 0 ((k : Int), 63)) := by decide +kernel
def pk (p : List Int) : Bool := [0, 1, 2, 3, 4, 5].all (fun v : Int => [0, 1, 2, 3, 4, 5].any (fun s : Int => at_ p s == v))
set_option maxRecDepth 100000 in
theorem pk_all : (lv6 6 0 []).all pk = true := by decide +kernel
theorem pk_prm {p : List Int} (h : pk p = true) : prm (at_ p) := by
  have hs : ∀ v, 0 ≤ v → v ≤ 5 → ∃ s, 0 ≤ s ∧ s ≤ 5 ∧ at_ p s = v := fun v v0 v1 => by
    unfold pk at h
    rw [List.all_eq_true] at h
    have h1 := h v (by
      rcases (by omega : v = 0 ∨ v = 1 ∨ v = 2 ∨ v = 3 ∨ v = 4 ∨ v = 5) with rfl | rfl | rfl | rfl | rfl | rfl <;> decide)
    rw [List.any_eq_true] at h1
    obtain ⟨s, s1, s2⟩ := h1
    have s3 : 0 ≤ s ∧ s ≤ 5 := by
      simp at s1
      omega
    exact ⟨s, s3.1, s3.2, by simpa using s2⟩
  have := (pig (at_ p)).mpr hs
  exact ⟨this.1, this.2, hs⟩
theorem mem_lv6 {r : Int → Int} (hr : prm r) : ∀ (k : Nat) (s t : Int) (p : List Int), (p.length : Int) = s → s + k = 6 → 0 ≤ t → (∀ u, 0 ≤ u → u < s → at_ p u = r u) → (∀ v, 0 ≤ v → v ≤ 5 → (bt t v ↔ ∃ u, 0 ≤ u ∧ u < s ∧ r u = v)) → ∃ p' ∈ lv6 k t p, ∀ u, 0 ≤ u → u ≤ 5 → at_ p' u = r u
  | 0, s, t, p, hp, hs, ht, h1, h2 => ⟨p, List.mem_singleton.mpr rfl, fun u u0 u1 => h1 u u0 (by omega)⟩
  | k + 1, s, t, p, hp, hs, ht, h1, h2 => by
    have hv := hr.1 s (by omega) (by omega)
    have hb : ¬ bt t (r s) := fun q => by
      obtain ⟨u, u0, u1, u2⟩ := (h2 (r s) hv.1 hv.2).mp q
      have := hr.2.1 u s u0 (by omega) (by omega) (by omega) u2
      omega
    have hb0 : ia (t / 2 ^ (r s).toNat) 1 = 0 := by rw [bt_bp, bp_f hb]
    obtain ⟨p', q1, q2⟩ := mem_lv6 hr k (s + 1) (io t (1 * 2 ^ (r s).toNat)) (p ++ [r s]) (by rw [List.length_append]; simp; omega) (by omega) (io_nn _ _) (fun u u0 u1 => by
      by_cases hu : u = s
      · rw [hu, at_eq p _ hp.symm]
      · rw [at_lt p _ u0 (by omega)]; exact h1 u u0 (by omega)) (fun v v0 v1 => by
      rw [bt_io ht (by have := pw5 hv; omega), bt_pw hv.1 v0, h2 v v0 v1]
      constructor
      · rintro (⟨u, u0, u1, u2⟩ | q)
        · exact ⟨u, u0, by omega, u2⟩
        · exact ⟨s, by omega, by omega, q⟩
      · rintro ⟨u, u0, u1, u2⟩
        by_cases hu : u = s
        · rw [hu] at u2; exact Or.inr u2
        · exact Or.inl ⟨u, u0, by omega, u2⟩)
    refine ⟨p', (mem_it (fun v => if ia (t / 2 ^ v.toNat) 1 = 0 then lv6 k (io t (1 * 2 ^ v.toNat)) (p ++ [v]) else []) p' 6).mpr ⟨r s, hv.1, by omega, ?_⟩, q2⟩
    try dsimp only
    rw [if_pos hb0]
    exact q1
theorem cpb_81 (y : Mem) {s : Int} (s0 : 0 ≤ s) (s1 : s ≤ 5) : cpb y 81 s = y 80 s := by
  have h := it_Ij (f := fun s (x : Mem) => stm x 81 s (x 80 s)) (fun n x => x 80 = y 80 ∧ ∀ s, 0 ≤ s → s < n → x 81 s = y 80 s) 6 0 y (fun n x a b hx => by
    refine ⟨(stm_ne _ _ _ (by decide)).trans hx.1, fun s s0 s1 => ?_⟩
    try dsimp only
    rw [stm_at, hx.1]
    by_cases hs : s = n
    · rw [if_pos hs, hs]
    · rw [if_neg hs]; exact hx.2 s s0 (by omega)) ⟨rfl, fun s s0 s1 => by omega⟩
  exact h.2 s s0 (by omega)
theorem SE.gm {x z : Mem} (h : SE x z) : CMd z ∧ WDn z := by
  obtain ⟨⟨o1, o2, o3, o4, o5, o6, o7⟩, e0, e1, e2, e3, e4, e5⟩ := h
  refine ⟨by unfold CMd; rw [← e1]; exact o2, fun i a b => ?_⟩
  rw [← e1] at b
  have := o6 i a b
  rw [← e3 i 0 a b (by omega) (by omega), ← e3 i 1 a b (by omega) (by omega), ← e3 i 2 a b (by omega) (by omega)]
  omega
theorem bw_rel {x z : Mem} (h : SE x z) (hM : MR x) (hz : MR z) (q0 : List Int) : ∀ n : Nat, n ≤ 720 → (let Y := it (fun k (y : Int × List Int) => stp (asm_ (fwm x) 67) y (ptl 6 0 (k, 63))) 0 n (2147483647, q0); let B := it (fun k x => bwr k x) 0 n (-1, z); BWI z B ∧ ((n = 0 ∧ Y.1 = 2147483647 ∧ B.1 = -1) ∨ (0 ≤ B.1 ∧ Y.1 = B.1 ∧ ∀ u, 0 ≤ u → u ≤ 5 → B.2 81 u = at_ Y.2 u))) := by
  intro n
  induction n with
  | zero => intro _; exact ⟨⟨by show (-1 : Int) ≤ -1 ∧ (-1 : Int) ≤ 160; omega, hz, rfl, rfl, rfl⟩, Or.inl ⟨rfl, rfl, rfl⟩⟩
  | succ n ih =>
    intro hn
    have ihn := ih (by omega)
    dsimp only at ihn ⊢
    rw [it_succ, it_succ, Int.zero_add]
    obtain ⟨b1, b2⟩ := ihn
    generalize it (fun k (y : Int × List Int) => stp (asm_ (fwm x) 67) y (ptl 6 0 (k, 63))) 0 n (2147483647, q0) = Y at b2 ⊢
    generalize it (fun k x => bwr k x) 0 n (-1, z) = B at b1 b2 ⊢
    obtain ⟨gc, gw⟩ := h.gm
    refine ⟨bwr_I gc gw ⟨by omega, by omega⟩ b1, Or.inr ?_⟩
    have hE : SE x (trm (n : Int) B.2) := h.cgz (fun i _ _ => by rw [trm_ne _ _ (by decide), b1.2.2.1])
    obtain ⟨fc, fp⟩ := fwm_pl h hM
    have hway : way_ (trm (n : Int) B.2) = cst (asm_ (fwm x) 67) (at_ (ptl 6 0 ((n : Int), 63))) 6 := by
      rw [q_way hE (p := at_ (ptl 6 0 ((n : Int), 63))) (fun s s0 s1 => (trm_80 _ _ s0 s1).symm), asm_cst fc fp]
    obtain ⟨gc2, gw2⟩ := hE.gm
    have hle := way_le gc2 gw2 (trm_I (k := (n : Int)) ⟨by omega, by omega⟩ b1.2.1).2
    have hcp : ∀ u, 0 ≤ u → u ≤ 5 → cpb (trm (n : Int) B.2) 81 u = at_ (ptl 6 0 ((n : Int), 63)) u := fun u u0 u1 => by rw [cpb_81 _ u0 u1, trm_80 _ _ u0 u1]
    have h81 : trm (n : Int) B.2 81 = B.2 81 := trm_ne _ _ (by decide)
    unfold bwr bwf stp
    rw [hway] at hle ⊢
    generalize cst (asm_ (fwm x) 67) (at_ (ptl 6 0 ((n : Int), 63))) 6 = C at hle ⊢
    rcases b2 with ⟨-, b3, b4⟩ | ⟨b3, b4, b5⟩
    · rw [if_pos (Or.inl b4), if_pos (by omega)]
      exact ⟨hle.1, rfl, hcp⟩
    · by_cases hc : C < B.1
      · rw [if_pos (Or.inr hc), if_pos (by omega)]
        exact ⟨hle.1, rfl, hcp⟩
      · rw [if_neg (by omega), if_neg (by omega)]
        exact ⟨b3, b4, fun u u0 u1 => by show trm (n : Int) B.2 81 u = _; rw [h81]; exact b5 u u0 u1⟩
theorem q_best {x z : Mem} (h : SE x z) (hM : MR x) (hz : MR z) (ht : TRL x) : fbm x 66 3 = (bwm z).1 ∧ (∀ s, 0 ≤ s → s ≤ 5 → fbm x 69 s = (bwm z).2 81 s) ∧ prm (fbm x 69) ∧ fbm x 66 3 ≤ ple (fbm x) ∧ 0 ≤ fbm x 66 3 := by
  obtain ⟨fc, fp⟩ := fwm_pl h hM
  have hPF := arm_0 (m := fwm x) (fwm_I hM (show SN x from h.1.2.1)).2.1 fc fp (by unfold TRL at ht; rw [fwm_ne _ (by decide) (by decide)]; exact ht)
  have hM0 : ∀ i, 0 ≤ i → i < 36 → 0 ≤ asm_ (fwm x) 67 i := fun i i0 i1 => by
    have := (hPF.2.2 i i0 i1).1
    rw [stm_ne _ _ _ (by decide)] at this
    exact this
  generalize hY : stm (asm_ (fwm x)) 66 3 2147483647 = Y at hPF
  have y67 : Y 67 = asm_ (fwm x) 67 := by rw [← hY, stm_ne _ _ _ (by decide)]
  have y66 : Y 66 3 = 2147483647 := by rw [← hY, stm_eq]
  have hf := pf_fold hM0 6 0 0 0 Y [] [Y 69 0, Y 69 1, Y 69 2, Y 69 3, Y 69 4, Y 69 5] rfl rfl y67 (fun u u0 u1 => by omega) rfl (fun u u0 u1 => by
    rcases (by omega : u = 0 ∨ u = 1 ∨ u = 2 ∨ u = 3 ∨ u = 4 ∨ u = 5) with rfl | rfl | rfl | rfl | rfl | rfl <;> rfl)
  have ha : fbm x = pfm 6 0 0 0 Y := by rw [← hY]; rfl
  rw [← ha, y66] at hf
  obtain ⟨f1, f2, -, -⟩ := hf
  have hb := bw_rel h hM hz [Y 69 0, Y 69 1, Y 69 2, Y 69 3, Y 69 4, Y 69 5] 720 (Nat.le_refl _)
  dsimp only at hb
  have hfold := fold_rg (stp (asm_ (fwm x) 67)) (fun k => ptl 6 0 (k, 63)) (2147483647, [Y 69 0, Y 69 1, Y 69 2, Y 69 3, Y 69 4, Y 69 5]) 720
  rw [← hfold, ← tab720] at hb
  obtain ⟨m1, m2, m3⟩ := fold_min (M := asm_ (fwm x) 67) (lv6 6 0 []) (2147483647, [Y 69 0, Y 69 1, Y 69 2, Y 69 3, Y 69 4, Y 69 5])
  generalize List.foldl (stp (asm_ (fwm x) 67)) (2147483647, [Y 69 0, Y 69 1, Y 69 2, Y 69 3, Y 69 4, Y 69 5]) (lv6 6 0 []) = F at f1 f2 hb m1 m2 m3
  have hbm : bwm z = it (fun k x => bwr k x) 0 720 (-1, z) := rfl
  rw [← hbm] at hb
  obtain ⟨hb1, hb2⟩ := hb
  rcases hb2 with ⟨hb2, -⟩ | ⟨hb2, hb3, hb4⟩
  · exact absurd hb2 (by decide)
  have hle := hb1.1
  refine ⟨by rw [f1, hb3], fun s s0 s1 => by rw [f2 s s0 s1, hb4 s s0 s1], ?_, ?_, by rw [f1, hb3]; exact hb2⟩
  · rcases m3 with m3 | ⟨p, p1, p2⟩
    · exfalso
      have : F.1 = 2147483647 := by rw [m3]
      omega
    · have hp := pk_prm (List.all_eq_true.mp pk_all p p1)
      rw [p2] at f2
      exact hp.cg (fun u u0 u1 => f2 u u0 u1)
  · obtain ⟨p, p1, p2⟩ := mem_lv6 h.1.2.2.2.2.2.2 6 0 0 [] rfl rfl (Int.le_refl _) (fun u u0 u1 => by omega) (fun v v0 v1 => ⟨fun q => absurd q (bt_0 v), fun q => by obtain ⟨u, u0, u1, _⟩ := q; omega⟩)
    have e1 := m2 p p1
    rw [cst_cg (M := asm_ (fwm x) 67) 6 (fun u u0 u1 => p2 u u0 (by omega)), asm_cst fc fp] at e1
    rw [f1]
    have e2 : ple (fbm x) = plen (fwm x 65) (x 7) (fwm x 64 1) := by
      unfold fbm
      rw [ple_plen, arm_ne _ (by decide), arm_ne _ (by decide), arm_ne _ (by decide), fwm_ne _ (q := 7) (by decide) (by decide)]
    rw [e2]
    exact e1
