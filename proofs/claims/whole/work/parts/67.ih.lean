/-! ===== draws ===== -/
theorem rr_eq (x : Int × Mem) : rr x = (rn (rn (rn (rn (rn x.1)))), adx x.2 (rn x.1 / 65536 % 8) (rn (rn x.1) / 65536 % 8) (rn (rn (rn x.1)) / 65536 % 8) (rn (rn (rn (rn x.1))) / 65536 % 8) (rn (rn (rn (rn (rn x.1)))) / 65536 % 4)) := by
  have e : it (fun w x => ri w x) 0 5 x = (rn (rn (rn (rn (rn x.1)))), stm (askm x.2 (rn x.1 / 65536 % 8) (rn (rn x.1) / 65536 % 8) (rn (rn (rn x.1)) / 65536 % 8) (rn (rn (rn (rn x.1))) / 65536 % 8)) 3 84 (rn (rn (rn (rn (rn x.1)))) / 65536 % 4)) := rfl
  have e2 : adx x.2 (rn x.1 / 65536 % 8) (rn (rn x.1) / 65536 % 8) (rn (rn (rn x.1)) / 65536 % 8) (rn (rn (rn (rn x.1))) / 65536 % 8) (rn (rn (rn (rn (rn x.1)))) / 65536 % 4) = apx (stm (askm x.2 (rn x.1 / 65536 % 8) (rn (rn x.1) / 65536 % 8) (rn (rn (rn x.1)) / 65536 % 8) (rn (rn (rn (rn x.1))) / 65536 % 8)) 3 84 (rn (rn (rn (rn (rn x.1)))) / 65536 % 4)) := if_pos ⟨⟨by omega, by omega, by omega, by omega⟩, by omega⟩
  unfold rr
  rw [e, e2]
theorem nxm_5 (y : Mem) : nxm y 76 5 = rn (y 76 5) := stm_eq _ _ _ _
theorem nxm_ne (y : Mem) {q : Nat} (h : q ≠ 76) : nxm y q = y q := stm_ne _ _ _ h
theorem nxm_ix (y : Mem) {j : Int} (h : j ≠ 5) : nxm y 76 j = y 76 j := stm_ix _ _ _ h
theorem nx5_ne (y : Mem) {q : Nat} (h : q ≠ 76) : nx5 y q = y q := by unfold nx5 nx4 nx3 nx2; rw [nxm_ne _ h, nxm_ne _ h, nxm_ne _ h, nxm_ne _ h, nxm_ne _ h]
theorem nx5_ix (y : Mem) {j : Int} (h : j ≠ 5) : nx5 y 76 j = y 76 j := by unfold nx5 nx4 nx3 nx2; rw [nxm_ix _ h, nxm_ix _ h, nxm_ix _ h, nxm_ix _ h, nxm_ix _ h]
theorem drd_eq (y : Int × Mem) {s : Int} (hs : s = y.2 76 5) : drd y = dre y.1 (nx5 y.2) (rn s / 65536 % 8) (rn (rn s) / 65536 % 8) (rn (rn (rn s)) / 65536 % 8) (rn (rn (rn (rn s))) / 65536 % 8) (rn (rn (rn (rn (rn s)))) / 65536 % 4) ∧ nx5 y.2 76 5 = rn (rn (rn (rn (rn s)))) := by
  subst hs
  have n2 : nx2 y.2 76 5 = rn (rn (y.2 76 5)) := by unfold nx2; rw [nxm_5, nxm_5]
  have n3 : nx3 y.2 76 5 = rn (rn (rn (y.2 76 5))) := by unfold nx3; rw [nxm_5, n2]
  have n4 : nx4 y.2 76 5 = rn (rn (rn (rn (y.2 76 5)))) := by unfold nx4; rw [nxm_5, n3]
  have n5 : nx5 y.2 76 5 = rn (rn (rn (rn (rn (y.2 76 5))))) := by unfold nx5; rw [nxm_5, n4]
  refine ⟨?_, n5⟩
  unfold drd nxv
  rw [nxm_5, n2, n3, n4]
  rw [show rn (rn (rn (rn (rn (y.2 76 5))))) / 65536 % 8 % 4 = rn (rn (rn (rn (rn (y.2 76 5))))) / 65536 % 4 by omega]
theorem SE.draws {x z : Mem} (h : SE x z) (a b : Int) : SE (rds x a b).2 (drs z a b).2 ∧ (drs z a b).1 = (rds x a b).2 2 2 - x 2 2 := by
  have hr := it_rel (f := fun _ x => rr x) (g := fun _ x => drd x) (fun _ (X : Int × Mem) (Y : Int × Mem) => X.1 = Y.2 76 5 ∧ SE X.2 Y.2 ∧ Y.1 = X.2 2 2 - x 2 2) b.toNat 0 (a, x) (0, stm z 76 5 a) (fun i X Y _ _ hR => by
    obtain ⟨r1, r2, r3⟩ := hR
    obtain ⟨d1, d2⟩ := drd_eq Y r1
    rw [rr_eq, d1]
    have hE : SE X.2 (nx5 Y.2) := r2.cgz (fun i _ _ => by rw [nx5_ne _ (by decide)])
    generalize rn X.1 / 65536 % 8 = v0 at *
    generalize rn (rn X.1) / 65536 % 8 = v1 at *
    generalize rn (rn (rn X.1)) / 65536 % 8 = v2 at *
    generalize rn (rn (rn (rn X.1))) / 65536 % 8 = v3 at *
    generalize rn (rn (rn (rn (rn X.1)))) / 65536 % 4 = v4 at *
    obtain ⟨s1, s2, s3⟩ := hE.sign v0 v1 v2 v3 v4
    by_cases hc : cns (nx5 Y.2) v0 v1 v2 v3 v4 = 0
    · have e : dre Y.1 (nx5 Y.2) v0 v1 v2 v3 v4 = (Y.1 + 1, adm (nx5 Y.2) v0 v1 v2 v3 v4) := if_pos hc
      rw [e]
      have hS := s2 hc
      refine ⟨?_, hS, ?_⟩
      · show rn (rn (rn (rn (rn X.1)))) = adm (nx5 Y.2) v0 v1 v2 v3 v4 76 5
        rw [adm_ne _ _ _ _ _ _ (by decide), d2]
      · show Y.1 + 1 = adx X.2 v0 v1 v2 v3 v4 2 2 - x 2 2
        have q := hS.2.1
        have e0 := hE.2.1
        have o1 := hE.1.1
        rw [(adm_in _ _ _ _ _ _ (by omega)).1] at q
        omega
    · have e : dre Y.1 (nx5 Y.2) v0 v1 v2 v3 v4 = (Y.1, nx5 Y.2) := if_neg hc
      rw [e]
      obtain ⟨t1, t2⟩ := s3 hc
      have q2 := congrFun (t1 2 (by decide)) 2
      have q5 := congrFun (t1 5 (by decide)) 1
      refine ⟨?_, hE.cgx q2 t2 (t1 4 (by decide)) q5 (t1 6 (by decide)) (t1 7 (by decide)), ?_⟩
      · show rn (rn (rn (rn (rn X.1)))) = nx5 Y.2 76 5
        rw [d2]
      · show Y.1 = adx X.2 v0 v1 v2 v3 v4 2 2 - x 2 2
        rw [t1 2 (by decide)]; exact r3) ⟨by show a = stm z 76 5 a 76 5; rw [stm_eq], h.cgz (fun i _ _ => congrFun (stm_ne (p := 77) (q := 76) z 5 a (by decide)) i), by show (0 : Int) = x 2 2 - x 2 2; omega⟩
  exact hr.2
theorem drs_ne (z : Mem) (a b : Int) (hz : 0 ≤ z 77 0 ∧ z 77 0 ≤ 16) : (∀ q : Nat, q ≠ 76 → q ≠ 77 → (drs z a b).2 q = z q) ∧ (∀ j, j ≠ 5 → (drs z a b).2 76 j = z 76 j) ∧ (∀ i, 82 ≤ i → (drs z a b).2 77 i = z 77 i) := by
  have h := it_I (f := fun _ x => drd x) (I := fun Y : Int × Mem => (∀ q : Nat, q ≠ 76 → q ≠ 77 → Y.2 q = z q) ∧ (∀ j, j ≠ 5 → Y.2 76 j = z 76 j) ∧ (∀ i, 82 ≤ i → Y.2 77 i = z 77 i) ∧ (0 ≤ Y.2 77 0 ∧ Y.2 77 0 ≤ 16)) b.toNat 0 (0, stm z 76 5 a) (fun i Y _ _ hY => by
    obtain ⟨h1, h2, h3, h4⟩ := hY
    have k1 : ∀ q : Nat, q ≠ 76 → q ≠ 77 → nx5 Y.2 q = z q := fun q q1 q2 => by rw [nx5_ne _ q1, h1 q q1 q2]
    have k2 : ∀ j, j ≠ 5 → nx5 Y.2 76 j = z 76 j := fun j hj => by rw [nx5_ix _ hj, h2 j hj]
    have k7 : nx5 Y.2 77 = Y.2 77 := nx5_ne _ (by decide)
    show (∀ q : Nat, q ≠ 76 → q ≠ 77 → (drd Y).2 q = z q) ∧ _
    unfold drd dre
    split
    · next hc =>
      have h16 := cns_0 hc (by unfold NM; rw [k7]; exact h4)
      rw [k7] at h16
      dsimp only
      refine ⟨fun q q1 q2 => by rw [adm_ne _ _ _ _ _ _ q2]; exact k1 q q1 q2, fun j hj => by rw [adm_ne _ _ _ _ _ _ (by decide)]; exact k2 j hj, fun i hi => by rw [adm_out _ _ _ _ _ _ (by omega) (by rw [k7]; omega), k7]; exact h3 i hi, ?_⟩
      rw [(adm_in _ _ _ _ _ _ (by rw [k7]; exact h4.1)).1, k7]
      omega
    · dsimp only; exact ⟨k1, k2, fun i hi => by rw [k7]; exact h3 i hi, by rw [k7]; exact h4⟩) (by dsimp only; exact ⟨fun q q1 q2 => stm_ne _ _ _ q1, fun j hj => stm_ix _ _ _ hj, fun i _ => by rw [stm_ne _ _ _ (by decide)], by rw [stm_ne _ _ _ (by decide)]; exact hz⟩)
  exact ⟨h.1, h.2.1, h.2.2.1⟩
theorem drs_I {z : Mem} {a b : Int} (hM : MR z) (hn : NM z) (ha : 0 ≤ a ∧ a ≤ 999999) : DRI (drs z a b).2 := by
  have h := it_I (f := fun _ x => drd x) (I := fun Y : Int × Mem => DRI Y.2) b.toNat 0 (0, stm z 76 5 a) (fun i Y _ _ hY => drd_I hY) ⟨hM.st (by omega), by unfold NM; dsimp only; rw [stm_ne _ _ _ (by decide)]; exact hn, by show 0 ≤ stm z 76 5 a 76 5 ∧ stm z 76 5 a 76 5 < 2147483648; rw [stm_eq]; omega⟩
  exact h
/-! ===== shifts ===== -/
def tau (a j u : Int) : Int := if a < j then (if a ≤ u ∧ u < j then u + 1 else if u = j then a else u) else (if j < u ∧ u ≤ a then u - 1 else if u = j then a else u)
theorem shf_6 (x : Mem) {i j u w : Int} (hi : 0 ≤ i) (hj : 0 ≤ j) (hw : 0 ≤ w ∧ w ≤ 2) : shf x i j 6 (u * 3 + w) = x 6 (tau i j u * 3 + w) := by
  unfold shf putm
  rw [stm_at, stm_at, stm_at]
  by_cases hu : u = j
  · have ht : tau i j u = i := by unfold tau; (repeat' split) <;> omega
    rw [ht]
    rcases (by omega : w = 0 ∨ w = 1 ∨ w = 2) with rfl | rfl | rfl
    · rw [if_neg (by omega), if_neg (by omega), if_pos (by omega)]
    · rw [if_neg (by omega), if_pos (by omega)]
    · rw [if_pos (by omega)]
  · rw [if_neg (by omega), if_neg (by omega), if_neg (by omega)]
    have hc : ∀ a b n : Int, mvm x a b n 6 (u * 3 + w) = if b * 3 ≤ u * 3 + w ∧ u * 3 + w < b * 3 + n * 3 then x 6 (a * 3 + (u * 3 + w - b * 3)) else x 6 (u * 3 + w) := fun a b n => by
      unfold mvm
      rw [sr_eq]
      rfl
    by_cases hij : i < j
    · rw [if_pos hij, hc]
      by_cases hb : i ≤ u ∧ u < j
      · have ht : tau i j u = u + 1 := by unfold tau; rw [if_pos hij, if_pos hb]
        rw [ht, if_pos (by omega)]; exact congrArg (x 6) (by omega)
      · have ht : tau i j u = u := by unfold tau; rw [if_pos hij, if_neg hb, if_neg hu]
        rw [ht, if_neg (by omega)]
    · rw [if_neg hij, hc]
      by_cases hb : j < u ∧ u ≤ i
      · have ht : tau i j u = u - 1 := by unfold tau; rw [if_neg hij, if_pos hb]
        rw [ht, if_pos (by omega)]; exact congrArg (x 6) (by omega)
      · have ht : tau i j u = u := by unfold tau; rw [if_neg hij, if_neg hb, if_neg hu]
        rw [ht, if_neg (by omega)]
theorem swp_at (z : Mem) {i j u v : Int} (hij : i ≠ j) (hv : 0 ≤ v ∧ v ≤ 2) : swp z i j 77 (82 + 3 * u + v) = z 77 (82 + 3 * (if u = i then j else if u = j then i else u) + v) := by
  have h := it_Ij (f := fun w (x : Mem) => stm (stm x 77 (82 + 3 * i + w) (x 77 (82 + 3 * j + w))) 77 (82 + 3 * j + w) (x 77 (82 + 3 * i + w))) (fun n y => ∀ u v, 0 ≤ v → v ≤ 2 → y 77 (82 + 3 * u + v) = if v < n then z 77 (82 + 3 * (if u = i then j else if u = j then i else u) + v) else z 77 (82 + 3 * u + v)) 3 0 z (fun n y a b hy u v v0 v1 => by
    try dsimp only
    have hi := hy i n (by omega) (by omega)
    have hj := hy j n (by omega) (by omega)
    rw [if_neg (by omega)] at hi hj
    rw [stm_at, stm_at, hi, hj]
    by_cases hvn : v = n
    · rw [hvn, if_pos (show n < n + 1 by omega)]
      by_cases hui : u = i
      · rw [hui, if_pos rfl, if_neg (by omega), if_pos rfl]
      · by_cases huj : u = j
        · rw [huj, if_pos rfl, if_neg (fun q => hij q.symm), if_pos rfl]
        · rw [if_neg (by omega), if_neg (by omega), if_neg hui, if_neg huj, hy u n (by omega) (by omega), if_neg (by omega)]
    · rw [if_neg (by omega), if_neg (by omega), hy u v v0 v1]
      by_cases hc : v < n
      · rw [if_pos hc, if_pos (show v < n + 1 by omega)]
      · rw [if_neg hc, if_neg (show ¬ v < n + 1 by omega)]) (fun u v v0 v1 => by rw [if_neg (by omega)])
  have := h u v hv.1 hv.2
  rw [if_pos (show v < 0 + ((3 : Nat) : Int) by omega)] at this
  exact this
theorem sfm_at (j : Int) : ∀ (k : Nat) (a : Int) (z : Mem), ab (a - j) = k → ∀ u v, 0 ≤ v → v ≤ 2 → sfm j k a z 77 (82 + 3 * u + v) = z 77 (82 + 3 * tau a j u + v)
  | 0, a, z, hk, u, v, v0, v1 => by
    have : a = j := by unfold ab at hk; split at hk <;> omega
    subst this
    have ht : tau a a u = u := by unfold tau; (repeat' split) <;> omega
    rw [ht]; rfl
  | k + 1, a, z, hk, u, v, v0, v1 => by
    have hn : ab (nx a j - j) = k := by
      unfold ab at hk ⊢; unfold nx
      (repeat' split at hk) <;> (repeat' split) <;> omega
    have hne : a ≠ nx a j := by unfold nx; split <;> omega
    have ha : a ≠ j := by intro q; rw [q] at hk; unfold ab at hk; split at hk <;> omega
    show sfm j k (nx a j) (swp z a (nx a j)) 77 (82 + 3 * u + v) = _
    rw [sfm_at j k (nx a j) _ hn u v v0 v1, swp_at z hne ⟨v0, v1⟩]
    have ht : (if tau (nx a j) j u = a then nx a j else if tau (nx a j) j u = nx a j then a else tau (nx a j) j u) = tau a j u := by
      unfold tau nx
      (repeat' split) <;> omega
    rw [ht]
theorem sfm_ne (j : Int) {q : Nat} (hq : q ≠ 77) : ∀ (k : Nat) (a : Int) (z : Mem), sfm j k a z q = z q
  | 0, _, _ => rfl
  | k + 1, a, z => by
    show sfm j k (nx a j) (swp z a (nx a j)) q = _
    rw [sfm_ne j hq k]
    exact it_8 (fun i x => by rw [stm_ne _ _ _ hq, stm_ne _ _ _ hq]) _ _ _
theorem sfm_out (z : Mem) {a j : Int} (ha : 0 ≤ a ∧ a ≤ 15) (hj : 0 ≤ j ∧ j ≤ 15) {i : Int} (hi : i < 82 ∨ 130 ≤ i) : sfm j (ab (a - j)).toNat a z 77 i = z 77 i := by
  have hk : ab (a - j) = (((ab (a - j)).toNat : Nat) : Int) := by rw [Int.toNat_of_nonneg]; unfold ab; split <;> omega
  have h := sfm_at j (ab (a - j)).toNat a z hk ((i - 82) / 3) ((i - 82) % 3) (by omega) (by omega)
  have ht : tau a j ((i - 82) / 3) = (i - 82) / 3 := by unfold tau; (repeat' split) <;> omega
  rw [ht, show 82 + 3 * ((i - 82) / 3) + (i - 82) % 3 = i by omega] at h
  exact h
theorem SE.shifts {x z : Mem} (h : SE x z) {i j : Int} (hc : (0 ≤ i ∧ i < x 5 1) ∧ (0 ≤ j ∧ j < x 5 1)) : SE (shf x i j) (sfm j (ab (i - j)).toNat i z) := by
  have hh := h
  obtain ⟨⟨o1, o2, o3, o4, o5, o6, o7⟩, e0, e1, e2, e3, e4, e5⟩ := hh
  have fq : ∀ q : Nat, q ≠ 6 → shf x i j q = x q := fun q q6 => by
    unfold shf putm mvm
    rw [stm_ne _ _ _ q6, stm_ne _ _ _ q6, stm_ne _ _ _ q6]
    split <;> exact sr_ne _ _ q6
  have hk : ab (i - j) = (((ab (i - j)).toNat : Nat) : Int) := by rw [Int.toNat_of_nonneg]; unfold ab; split <;> omega
  have f5 : shf x i j 5 1 = x 5 1 := by rw [fq 5 (by decide)]
  have ht : ∀ u, 0 ≤ u → u < x 5 1 → 0 ≤ tau i j u ∧ tau i j u < x 5 1 := fun u u0 u1 => by unfold tau; (repeat' split) <;> omega
  refine h.words (by rw [fq 2 (by decide)]) (fq 3 (by decide)) (fq 4 (by decide)) (fq 7 (by decide)) (by rw [f5]; exact o2) (fun k _ k2 => sfm_out z (by omega) (by omega) k2) (by rw [sfm_out z (by omega) (by omega) (by omega), f5, e1]) (fun u w u0 u1 w0 w1 => ?_) (fun u u0 u1 => ?_)
  · rw [f5] at u1
    rw [shf_6 x hc.1.1 hc.2.1 ⟨w0, w1⟩, sfm_at j _ i z hk u w w0 w1]
    exact e3 _ w (ht u u0 u1).1 (ht u u0 u1).2 w0 w1
  · rw [f5] at u1
    rw [shf_6 x hc.1.1 hc.2.1 (by omega), shf_6 x hc.1.1 hc.2.1 (by omega), shf_6 x hc.1.1 hc.2.1 (by omega)]
    exact o6 _ (ht u u0 u1).1 (ht u u0 u1).2
/-! ===== positions ===== -/
theorem SE.pos {x z x' z' : Mem} (h : SE x z) (hq : ∀ q : Nat, q ≠ 7 → x' q = x q) (hz : ∀ i, i < 134 → z' 77 i = z 77 i) (hp : ∀ s, 0 ≤ s → s ≤ 5 → x' 7 s = z' 77 (134 + s)) (ho : prm (x' 7)) : SE x' z' := by
  obtain ⟨⟨o1, o2, o3, o4, o5, o6, o7⟩, e0, e1, e2, e3, e4, e5⟩ := h
  have q2 := hq 2 (by decide); have q3 := hq 3 (by decide); have q4 := hq 4 (by decide); have q5 := hq 5 (by decide); have q6 := hq 6 (by decide)
  refine ⟨⟨by rw [q2]; exact o1, by rw [q5]; exact o2, by rw [q2, q3]; exact o3, by rw [q2, q3]; exact o4, by rw [q4]; exact o5, by rw [q2, q5, q6]; exact o6, ho⟩, ?_, ?_, ?_, ?_, ?_, hp⟩
  · rw [q2, hz _ (by omega)]; exact e0
  · rw [q5, hz _ (by omega)]; exact e1
  · rw [q2, q3]; intro k j k0 k1 j0 j1; rw [hz _ (by omega)]; exact e2 k j k0 k1 j0 j1
  · rw [q5, q6]; intro k j k0 k1 j0 j1; rw [hz _ (by omega)]; exact e3 k j k0 k1 j0 j1
  · rw [q4]; intro j j0 j1; rw [hz _ (by omega)]; exact e4 j j0 j1
theorem sat_eq (z : Mem) {v t : Int} (ht : 0 ≤ t ∧ t ≤ 5) (hv : z 77 (134 + t) = v) (hu : ∀ s, 0 ≤ s → s ≤ 5 → z 77 (134 + s) = v → s = t) : ∀ (k : Nat) (s : Int), s + k = 5 → 0 ≤ s → s ≤ t → sat z v k s = t
  | 0, s, h1, h0, h2 => by unfold sat; omega
  | k + 1, s, h1, h0, h2 => by
    unfold sat
    split
    · next hc => exact hu s h0 (by omega) hc
    · next hc =>
      refine sat_eq z ht hv hu k (s + 1) (by omega) (by omega) ?_
      by_cases hs : s = t
      · rw [hs] at hc; exact absurd hv hc
      · omega
theorem lyo_7 (x : Mem) (hp : prm (x 7)) {a v : Int} (ha : 0 ≤ a ∧ a ≤ 5) : ∀ s, 0 ≤ s → s ≤ 5 → lyo x a v 7 s = if s = a then v else if x 7 s = v then x 7 a else x 7 s := by
  have h := it_Ij (f := fun s (y : Mem) => if y 7 s = v then stm y 7 s (x 7 a) else y) (fun n y => ∀ s, y 7 s = if (0 ≤ s ∧ s < n) ∧ x 7 s = v then x 7 a else x 7 s) 6 0 x (fun n y c d hy s => by
    have hn := hy n
    rw [if_neg (by omega)] at hn
    try dsimp only
    rw [hn]
    by_cases hs : s = n
    · rw [hs]
      by_cases hv : x 7 n = v
      · rw [if_pos hv, stm_eq, if_pos ⟨by omega, hv⟩]
      · rw [if_neg hv, if_neg (fun q => hv q.2)]; exact hn
    · have e : (if x 7 n = v then stm y 7 n (x 7 a) else y) 7 s = y 7 s := by
        split
        · exact stm_ix _ _ _ hs
        · rfl
      rw [e, hy s]
      by_cases hc : (0 ≤ s ∧ s < n) ∧ x 7 s = v
      · rw [if_pos hc, if_pos (show (0 ≤ s ∧ s < n + 1) ∧ x 7 s = v from ⟨by omega, hc.2⟩)]
      · rw [if_neg hc, if_neg (show ¬ ((0 ≤ s ∧ s < n + 1) ∧ x 7 s = v) from fun q => hc ⟨by omega, q.2⟩)]) (fun s => by rw [if_neg (by omega)])
  intro s s0 s1
  unfold lyo
  rw [stm_at]
  by_cases hs : s = a
  · rw [if_pos hs, if_pos hs]
  · rw [if_neg hs, if_neg hs, h s]
    by_cases hv : x 7 s = v
    · rw [if_pos hv, if_pos ⟨by omega, hv⟩]
    · rw [if_neg hv, if_neg (fun q => hv q.2)]
theorem lyo_ne (x : Mem) (a v : Int) {q : Nat} (h : q ≠ 7) : lyo x a v q = x q := by
  unfold lyo
  rw [stm_ne _ _ _ h]
  exact it_8 (fun i y => by split <;> first | exact stm_ne _ _ _ h | rfl) _ _ _
theorem SE.lays {x z : Mem} (h : SE x z) {a v : Int} (hc : (0 ≤ a ∧ a ≤ 5) ∧ (0 ≤ v ∧ v ≤ 5)) : SE (lyo x a v) (lym z a v) := by
  have hp := h.1.2.2.2.2.2.2
  have e5 := h.2.2.2.2.2.2
  obtain ⟨t, t0, t1, t2⟩ := hp.2.2 v hc.2.1 hc.2.2
  have hu : ∀ s, 0 ≤ s → s ≤ 5 → x 7 s = v → s = t := fun s s0 s1 hs => hp.2.1 s t s0 s1 t0 t1 (by rw [hs, t2])
  have hsat : sat z v 5 0 = t := sat_eq z ⟨t0, t1⟩ (by rw [← e5 t t0 t1]; exact t2) (fun s s0 s1 hs => hu s s0 s1 (by rw [e5 s s0 s1]; exact hs)) 5 0 rfl (by omega) t0
  have hx : ∀ s, 0 ≤ s → s ≤ 5 → lyo x a v 7 s = if s = a then v else if s = t then x 7 a else x 7 s := fun s s0 s1 => by
    rw [lyo_7 x hp hc.1 s s0 s1]
    by_cases hs : s = t
    · rw [hs, t2, if_pos rfl, if_pos rfl]
    · rw [if_neg hs, if_neg (fun q => hs (hu s s0 s1 q))]
  refine h.pos (fun q hq => lyo_ne x a v hq) (fun i hi => ?_) (fun s s0 s1 => ?_) ⟨fun s s0 s1 => ?_, fun s u s0 s1 u0 u1 hs => ?_, fun w w0 w1 => ?_⟩
  · unfold lym
    rw [hsat, stm_ix _ _ _ (by omega), stm_ix _ _ _ (by omega)]
  · rw [hx s s0 s1]
    unfold lym
    rw [hsat, stm_at, stm_at]
    by_cases hs : s = a
    · rw [if_pos hs, if_pos (show 134 + s = 134 + a by omega)]
    · rw [if_neg hs, if_neg (show ¬ 134 + s = 134 + a by omega)]
      by_cases ht : s = t
      · rw [if_pos ht, if_pos (show 134 + s = 134 + t by omega)]; exact e5 a hc.1.1 hc.1.2
      · rw [if_neg ht, if_neg (show ¬ 134 + s = 134 + t by omega)]; exact e5 s s0 s1
  · rw [hx s s0 s1]
    have := hp.1 s s0 s1
    have := hp.1 a hc.1.1 hc.1.2
    (repeat' split) <;> omega
  · rw [hx s s0 s1, hx u u0 u1] at hs
    have ia := hp.2.1 s u s0 s1 u0 u1
    have i1 := hp.2.1 s a s0 s1 hc.1.1 hc.1.2
    have i2 := hp.2.1 u a u0 u1 hc.1.1 hc.1.2
    have i3 := hp.2.1 s t s0 s1 t0 t1
    have i4 := hp.2.1 u t u0 u1 t0 t1
    have i5 := hp.2.1 a t hc.1.1 hc.1.2 t0 t1
    (repeat' split at hs) <;> omega
  · -- which spot has w
    obtain ⟨r, r0, r1, r2⟩ := hp.2.2 w w0 w1
    by_cases hw : w = v
    · exact ⟨a, hc.1.1, hc.1.2, by rw [hx a hc.1.1 hc.1.2, if_pos rfl, hw]⟩
    · have hrt : r ≠ t := fun q => by rw [q, t2] at r2; exact hw r2.symm
      by_cases hra : r = a
      · have hta : t ≠ a := fun q => hrt (hra.trans q.symm)
        exact ⟨t, t0, t1, by rw [hx t t0 t1, if_neg hta, if_pos rfl, ← hra]; exact r2⟩
      · exact ⟨r, r0, r1, by rw [hx r r0 r1, if_neg hra, if_neg hrt]; exact r2⟩
