/-! ===== look, nearest, span ===== -/
theorem q_look {m : Mem} (h : eq0 m) {a b c d : Int} (h1 : m 3 (16 * 5 + 0) = a) (h2 : m 3 (16 * 5 + 1) = b) (h3 : m 3 (16 * 5 + 2) = c) (h4 : m 3 (16 * 5 + 3) = d) : mts m = lks m a b c d := by
  obtain ⟨e0, e1, e2, e3, e4, e5⟩ := h
  unfold mts lks
  rw [← e0]
  refine it_cgI (fun x => 0 ≤ x) _ _ _ (by decide) (fun i x u v hx => ?_) (fun i x u v hx => ?_)
  · try dsimp only
    split
    · exact hx
    · exact io_nn _ _
  · have hm : mtc m i ↔ ((a = -1 ∨ m 77 (2 + 5 * i + 0) = a) ∧ (b = -1 ∨ m 77 (2 + 5 * i + 1) = b) ∧ (c = -1 ∨ m 77 (2 + 5 * i + 2) = c) ∧ (d = -1 ∨ m 77 (2 + 5 * i + 3) = d)) := by
      have f0 := e2 i 0 u (by omega) (by omega) (by omega)
      have f1 := e2 i 1 u (by omega) (by omega) (by omega)
      have f2 := e2 i 2 u (by omega) (by omega) (by omega)
      have f3 := e2 i 3 u (by omega) (by omega) (by omega)
      unfold mtc
      rw [← f0, ← f1, ← f2, ← f3]
      constructor
      · intro hp
        have g0 := hp 0 (by omega) (by omega)
        have g1 := hp 1 (by omega) (by omega)
        have g2 := hp 2 (by omega) (by omega)
        have g3 := hp 3 (by omega) (by omega)
        rw [h1] at g0; rw [h2] at g1; rw [h3] at g2; rw [h4] at g3
        omega
      · intro hp p p0 p1
        rcases (by omega : p = 0 ∨ p = 1 ∨ p = 2 ∨ p = 3) with rfl | rfl | rfl | rfl
        · rw [h1]; omega
        · rw [h2]; omega
        · rw [h3]; omega
        · rw [h4]; omega
    by_cases hc : mtc m i
    · rw [bp_t hc, if_neg (by decide), if_pos (hm.mp hc)]
    · rw [bp_f hc, if_pos rfl, if_neg (fun hh => hc (hm.mpr hh)), io_0 hx]
theorem q_nearest {m : Mem} (h : eq0 m) (ho : okm m 1) (h16 : RV m 16) {a b c d : Int} (h1 : m 3 (16 * 5 + 0) = a) (h2 : m 3 (16 * 5 + 1) = b) (h3 : m 3 (16 * 5 + 2) = c) (h4 : m 3 (16 * 5 + 3) = d) : (clo m).1 = nst m a b c d := by
  have hn : 0 ≤ m 2 2 ∧ m 2 2 ≤ 16 := ho.1
  have hds : ∀ j, 0 ≤ j → j < m 2 2 → ds m j 16 = ao m j a b c d := fun j u v => by rw [q_ao h u v, h1, h2, h3, h4]
  have hle : ∀ j, 0 ≤ j → j < m 2 2 → 0 ≤ ds m j 16 ∧ ds m j 16 ≤ 160 := fun j u v => ds_le (ho.gi.2.2.1 j u v) h16 ho.gi.2.2.2.2.1
  have hr := it_rel (f := fun j (x : Int × Int) => if ds m j 16 < x.2 then (j, ds m j 16) else x) (g := fun k x => if x = -1 ∨ ao m k a b c d < ao m x a b c d then k else x) (fun i x y => x.1 = y ∧ ((y = -1 ∧ x.2 = 2147483647) ∨ ((0 ≤ y ∧ y < i) ∧ x.2 = ao m y a b c d))) (m 2 2).toNat 0 ((-1 : Int), (2147483647 : Int)) (-1) (fun i x y u v hR => by
    have g1 := hds i u (by have := hn.1; omega)
    have g2 := hle i u (by have := hn.1; omega)
    obtain ⟨r1, r2⟩ := hR
    rcases r2 with ⟨r2, r3⟩ | ⟨r2, r3⟩
    · rw [if_pos (by omega), if_pos (Or.inl r2)]
      exact ⟨rfl, Or.inr ⟨by omega, g1⟩⟩
    · by_cases hc : ao m i a b c d < ao m y a b c d
      · rw [if_pos (by omega), if_pos (Or.inr hc)]
        exact ⟨rfl, Or.inr ⟨by omega, g1⟩⟩
      · rw [if_neg (by omega), if_neg (by omega)]
        exact ⟨r1, Or.inr ⟨by omega, r3⟩⟩) ⟨rfl, Or.inl ⟨rfl, rfl⟩⟩
  unfold clo nst
  rw [← h.1]
  exact hr.1
/-- span: the class keeps the pair and the distance, the reference the distance and the pair -/
def SPR (m : Mem) (x y : Int × Int) : Prop := (x.1 = -1 ∧ y = (-1, -1)) ∨ (∃ j k, (0 ≤ j ∧ j < m 2 2) ∧ (0 ≤ k ∧ k < m 2 2) ∧ x = (j * 16 + k, ds m j k) ∧ y = (ds m j k, 16 * j + k))
theorem q_span0 {m : Mem} (h : eq0 m) (ho : okm m 1) (a : Int) : SPR m (yp m (if a % 2 = 0 then 1 else 0)) (zp m a) := by
  have hn : 0 ≤ m 2 2 ∧ m 2 2 ≤ 16 := ho.1
  have hle : ∀ j k, 0 ≤ j → j < m 2 2 → 0 ≤ k → k < m 2 2 → 0 ≤ ds m j k ∧ ds m j k ≤ 160 := fun j k u v w z => ds_le (ho.gi.2.2.1 j u v) (ho.gi.2.2.1 k w z) ho.gi.2.2.2.2.1
  unfold yp zp
  rw [← h.1]
  refine it_rel (fun _ x y => SPR m x y) (m 2 2).toNat 0 _ _ (fun j x y u v hR => ?_) (Or.inl ⟨rfl, rfl⟩)
  unfold yr zr
  rw [← h.1]
  have hj : 0 ≤ j ∧ j < m 2 2 := by omega
  refine it_rel (fun _ x y => SPR m x y) (m 2 2 - (j + 1)).toNat (j + 1) _ _ (fun k x y u2 v2 hR => ?_) hR
  have hk : 0 ≤ k ∧ k < m 2 2 := by omega
  have hd := q_ds h hj.1 hj.2 hk.1 hk.2
  have hb := hle j k hj.1 hj.2 hk.1 hk.2
  unfold ys zs
  rcases hR with ⟨r1, r2⟩ | ⟨j2, k2, q1, q2, q3, q4⟩
  · rw [if_pos (Or.inl r1), if_pos (Or.inl (by rw [r2]))]
    exact Or.inr ⟨j, k, hj, hk, rfl, by rw [← hd]⟩
  · have hb2 := hle j2 k2 q1.1 q1.2 q2.1 q2.2
    subst q3 q4
    by_cases hc : (a % 2 = 0 ∧ ds m j2 k2 < btw m j k) ∨ (¬ a % 2 = 0 ∧ btw m j k < ds m j2 k2)
    · rw [if_pos (Or.inr (by
        rcases hc with hc | hc
        · right; rw [if_pos hc.1]; dsimp only; omega
        · left; rw [if_neg hc.1]; dsimp only; omega)), if_pos (Or.inr (by dsimp only; omega))]
      exact Or.inr ⟨j, k, hj, hk, rfl, by rw [← hd]⟩
    · rw [if_neg (by
        intro hh
        apply hc
        dsimp only at hh
        by_cases ha : a % 2 = 0
        · rw [if_pos ha] at hh; omega
        · rw [if_neg ha] at hh; omega), if_neg (by
        intro hh
        dsimp only at hh
        omega)]
      exact Or.inr ⟨j2, k2, q1, q2, rfl, rfl⟩
theorem q_span {m : Mem} (h : eq0 m) (ho : okm m 1) (a : Int) : spn m (if a % 2 = 0 then 1 else 0) a = if a < 2 then (zp m a).1 else (zp m a).2 := by
  have hn : 0 ≤ m 2 2 ∧ m 2 2 ≤ 16 := ho.1
  have hR := q_span0 h ho a
  unfold spn
  generalize yp m (if a % 2 = 0 then 1 else 0) = x at hR ⊢
  generalize zp m a = y at hR ⊢
  rcases hR with ⟨r1, r2⟩ | ⟨j, k, q1, q2, q3, q4⟩
  · rw [r1, r2, if_pos (Or.inl rfl)]
    split <;> rfl
  · subst q3 q4
    dsimp only
    by_cases ha : a < 2
    · rw [if_neg (by omega), if_pos ha, show (j * 16 + k) / 16 = j by omega, show (j * 16 + k) % 16 = k by omega]
    · rw [if_pos (by omega), if_neg ha]
      omega
/-! ===== sums over pairs ===== -/
def su (n : Int) (g : Int → Int) (x : Int) : Int := it (fun k x => x + g k) 0 n.toNat x
def s1 (n : Int) (g : Int → Int → Int) (j x : Int) : Int := it (fun k x => x + g j k) (j + 1) (n - (j + 1)).toNat x
def s2 (n : Int) (g : Int → Int → Int) : Int := it (fun j x => s1 n g j x) 0 n.toNat 0
def t1 (g : Int → Int → Int) (j x : Int) : Int := it (fun k x => x + g k j) 0 j.toNat x
def t2 (n : Int) (g : Int → Int → Int) : Int := it (fun j x => t1 g j x) 0 n.toNat 0
theorem it_add {f : Int → Int} : ∀ (n : Nat) (j x y : Int), it (fun k z => z + f k) j n (x + y) = it (fun k z => z + f k) j n x + y
  | 0, j, x, y => rfl
  | n + 1, j, x, y => by
    unfold it
    have := it_add (f := f) n (j + 1) (x + f j) y
    rw [show x + y + f j = x + f j + y by omega]
    exact this
theorem s1_add (n : Int) (g : Int → Int → Int) (j x : Int) : s1 n g j x = s1 n g j 0 + x := by
  have := it_add (f := g j) (n - (j + 1)).toNat (j + 1) 0 x
  rw [Int.zero_add] at this
  exact this
theorem t1_add (g : Int → Int → Int) (j x : Int) : t1 g j x = t1 g j 0 + x := by
  have := it_add (f := fun k => g k j) j.toNat 0 0 x
  rw [Int.zero_add] at this
  exact this
theorem st_eq (g : Int → Int → Int) : ∀ n : Nat, s2 (n : Int) g = t2 (n : Int) g
  | 0 => rfl
  | n + 1 => by
    have ih := st_eq g n
    -- the new column
    have hcol : ∀ (c : Nat) (x y : Int), c ≤ n → it (fun j x => s1 ((n + 1 : Nat) : Int) g j x) 0 c x = it (fun j x => s1 (n : Int) g j x) 0 c y + it (fun k x => x + g k (n : Int)) 0 c (x - y) := by
      intro c
      induction c with
      | zero => intro x y _; show x = y + (x - y); omega
      | succ c ihc =>
        intro x y hc
        rw [it_succ, it_succ, it_succ, ihc x y (by omega), s1_add, s1_add (n : Int)]
        have e1 : s1 ((n + 1 : Nat) : Int) g (0 + (c : Int)) 0 = s1 (n : Int) g (0 + (c : Int)) 0 + g (0 + (c : Int)) (n : Int) := by
          unfold s1
          rw [show (((n + 1 : Nat) : Int) - (0 + (c : Int) + 1)).toNat = ((n : Int) - (0 + (c : Int) + 1)).toNat + 1 by omega, it_succ]
          rw [show 0 + (c : Int) + 1 + (((n : Int) - (0 + (c : Int) + 1)).toNat : Int) = (n : Int) by omega]
        rw [e1]
        omega
    have e2 : s2 ((n + 1 : Nat) : Int) g = s2 (n : Int) g + t1 g (n : Int) 0 := by
      unfold s2
      rw [show (((n + 1 : Nat) : Int)).toNat = n + 1 by omega, it_succ, show ((n : Int)).toNat = n by omega, hcol n 0 0 (Nat.le_refl _)]
      have e3 : ∀ x, s1 ((n + 1 : Nat) : Int) g (0 + (n : Int)) x = x := fun x => by
        unfold s1
        rw [show (((n + 1 : Nat) : Int) - (0 + (n : Int) + 1)).toNat = 0 by omega]
        rfl
      rw [e3]
      rfl
    have e4 : t2 ((n + 1 : Nat) : Int) g = t2 (n : Int) g + t1 g (n : Int) 0 := by
      unfold t2
      rw [show (((n + 1 : Nat) : Int)).toNat = n + 1 by omega, it_succ, show ((n : Int)).toNat = n by omega, t1_add, Int.zero_add]
      omega
    rw [e2, e4, ih]
