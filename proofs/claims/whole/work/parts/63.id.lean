/-! ===== twins ===== -/
theorem df_cg {m x : Mem} (h : x 3 = m 3) (a b : Int) : df x a b = df m a b := by unfold df; rw [h]
theorem df_sy (m : Mem) (a b : Int) : df m a b = df m b a := by
  unfold df
  refine it_cg _ _ _ (fun i x _ _ => ?_)
  by_cases h : m 3 (a * 5 + i) = m 3 (b * 5 + i)
  · rw [if_pos h, if_pos h.symm]
  · rw [if_neg h, if_neg (fun hh => h hh.symm)]
def ind (a u : Int) : Int := if ons u = 1 ∧ (a = -1 ∨ ia (u / 2 ^ a.toNat) 1 = 1) then 1 else 0
theorem ind_tab : ∀ b : Nat, b < 5 → ∀ u : Nat, u < 16 → ind ((b : Int) - 1) (u : Int) = (if ((b : Int) - 1 = -1 ∨ (b : Int) - 1 = 0) ∧ (u : Int) = 1 then 1 else 0) + (if ((b : Int) - 1 = -1 ∨ (b : Int) - 1 = 1) ∧ (u : Int) = 2 then 1 else 0) + (if ((b : Int) - 1 = -1 ∨ (b : Int) - 1 = 2) ∧ (u : Int) = 4 then 1 else 0) + (if ((b : Int) - 1 = -1 ∨ (b : Int) - 1 = 3) ∧ (u : Int) = 8 then 1 else 0) := by decide +kernel
theorem mpr_eq (m : Mem) (a : Int) : mpr m a = (if a = -1 ∨ a = 0 then m 74 1 else 0) + (if a = -1 ∨ a = 1 then m 74 2 else 0) + (if a = -1 ∨ a = 2 then m 74 4 else 0) + (if a = -1 ∨ a = 3 then m 74 8 else 0) := by
  have h : mpr m a = (fun x0 => (fun x1 => (fun x2 => if a = -1 ∨ a = 3 then x2 + m 74 8 else x2) (if a = -1 ∨ a = 2 then x1 + m 74 4 else x1)) (if a = -1 ∨ a = 1 then x0 + m 74 2 else x0)) (if a = -1 ∨ a = 0 then 0 + m 74 1 else 0) := rfl
  rw [h]
  dsimp only
  (repeat' split) <;> omega
theorem stm_inc (x : Mem) (q : Nat) (u i : Int) : stm x q u (x q u + 1) q i = x q i + (if u = i then 1 else 0) := by
  by_cases h : u = i
  · rw [if_pos h, h, stm_eq]
  · rw [if_neg h, stm_ix _ _ _ (fun hh => h hh.symm), Int.add_zero]
theorem ite_inc {c d : Prop} [Decidable c] [Decidable d] (x : Int) : (if c then x + (if d then 1 else 0) else 0) = (if c then x else 0) + (if c ∧ d then 1 else 0) := by
  by_cases hc : c <;> by_cases hd : d <;> simp [hc, hd]
theorem mpr_st {x : Mem} {a u : Int} (ha : -1 ≤ a ∧ a ≤ 3) (hu : 0 ≤ u ∧ u < 16) : mpr (stm x 74 u (x 74 u + 1)) a = mpr x a + ind a u := by
  have ht := ind_tab (a + 1).toNat (by omega) u.toNat (by omega)
  rw [show (((a + 1).toNat : Nat) : Int) - 1 = a by omega, Int.toNat_of_nonneg hu.1] at ht
  rw [mpr_eq, mpr_eq, stm_inc, stm_inc, stm_inc, stm_inc, ite_inc, ite_inc, ite_inc, ite_inc, ht]
  omega
theorem fl_74 (m : Mem) {d : Int} (h : 0 ≤ d ∧ d < 16) : flm m 74 16 0 74 d = 0 := (fl_get 16 0 d m).1 (by omega)
theorem cmm_rel {m : Mem} (hn : CN m) (R : Mem → Int → Prop) (g : Int → Int → Int → Int) (y0 : Int) (h0 : R (flm m 74 16 0) y0) (hs : ∀ j k x y, (0 ≤ j ∧ j < m 2 2) → (j + 1 ≤ k ∧ k < m 2 2) → x 3 = m 3 → R x y → R (stm x 74 (df m j k) (x 74 (df m j k) + 1)) (g j k y)) : R (cmm m) (it (fun j y => it (fun k y => g j k y) (j + 1) (m 2 2 - (j + 1)).toNat y) 0 (m 2 2).toNat y0) := by
  have n0 := hn.1
  have h := it_rel (f := fun j x => crw (m 2 2) j x) (g := fun j y => it (fun k y => g j k y) (j + 1) (m 2 2 - (j + 1)).toNat y) (fun _ x y => x 3 = m 3 ∧ R x y) (m 2 2).toNat 0 (flm m 74 16 0) y0 (fun j x y a b hR => by
    refine it_rel (f := fun k x => cj j k x) (g := fun k y => g j k y) (fun _ x y => x 3 = m 3 ∧ R x y) (m 2 2 - (j + 1)).toNat (j + 1) x y (fun k x y c d hR => ?_) hR
    have e := df_cg hR.1 j k
    unfold cj
    rw [e]
    exact ⟨(stm_ne _ _ _ (by decide)).trans hR.1, hs j k x y (by omega) (by omega) hR.1 hR.2⟩) ⟨flm_ne (by decide) _ _ _ _, h0⟩
  exact h.2
theorem q_twins {m : Mem} (h : eq0 m) (ho : okm m 1) {a : Int} (ha : -1 ≤ a ∧ a ≤ 3) : mpr (cmm m) a = twn m a := by
  have hn : CN m := ho.1
  have n0 : 0 ≤ m 2 2 := hn.1
  have h1 := cmm_rel hn (fun x y => mpr x a = y) (fun j k y => y + ind a (df m j k)) 0 (by
    rw [mpr_eq, fl_74 m (by omega), fl_74 m (by omega), fl_74 m (by omega), fl_74 m (by omega)]
    (repeat' split) <;> rfl) (fun j k x y _ _ _ hR => by rw [mpr_st ha (df_16 m j k), hR])
  have h2 : it (fun j y => it (fun k y => y + ind a (df m j k)) (j + 1) (m 2 2 - (j + 1)).toNat y) 0 (m 2 2).toNat 0 = s2 (m 2 2) (fun j k => ind a (df m j k)) := rfl
  have h3 := st_eq (fun j k => ind a (df m j k)) (m 2 2).toNat
  rw [Int.toNat_of_nonneg n0] at h3
  have h4 : t2 (m 2 2) (fun j k => ind a (df m j k)) = twn m a := by
    unfold t2 twn
    rw [← h.1]
    refine it_cg _ _ _ (fun j x u v => ?_)
    unfold t1 tww
    refine it_cg _ _ _ (fun k y u2 v2 => ?_)
    show y + ind a (df m k j) = _
    unfold twr ind
    rw [df_sy m k j, q_df h u (by omega) u2 (by omega)]
  rw [h1, h2, h3, h4]
/-! ===== enough ===== -/
theorem bp_and {p q : Prop} [Decidable q] : (if ¬ bp p = 0 ∧ q then (1 : Int) else 0) = bp (p ∧ q) := by
  by_cases hp : p
  · by_cases hq : q
    · rw [bp_t hp, bp_t ⟨hp, hq⟩, if_pos ⟨by decide, hq⟩]
    · rw [if_neg (fun hh => hq hh.2), bp_f (p := p ∧ q) (fun hh => hq hh.2)]
  · rw [bp_f hp, bp_f (fun hh => hp hh.1), if_neg (fun hh => hh.1 rfl)]
theorem and_fold (P : Int → Int) : ∀ (n : Nat) (j : Int) (A : Prop), it (fun k x => if ¬ x = 0 ∧ ¬ P k = 0 then (1 : Int) else 0) j n (bp A) = bp (A ∧ ∀ i, j ≤ i → i < j + n → ¬ P i = 0)
  | 0, j, A => by
    show bp A = _
    exact bp_congr ⟨fun h => ⟨h, fun i a b => by omega⟩, fun h => h.1⟩
  | n + 1, j, A => by
    unfold it
    rw [bp_and, and_fold P n (j + 1) (A ∧ ¬ P j = 0)]
    refine bp_congr ⟨fun h => ⟨h.1.1, fun i a b => ?_⟩, fun h => ⟨⟨h.1, h.2 j (by omega) (by omega)⟩, fun i a b => h.2 i (by omega) (by omega)⟩⟩
    by_cases hi : i = j
    · rw [hi]; exact h.1.2
    · exact h.2 i (by omega) (by omega)
theorem and_fold2 (P : Int → Int → Int) (lo : Int → Int) (len : Int → Nat) : ∀ (n : Nat) (j : Int) (A : Prop), it (fun j x => it (fun k x => if ¬ x = 0 ∧ ¬ P j k = 0 then (1 : Int) else 0) (lo j) (len j) x) j n (bp A) = bp (A ∧ ∀ i, j ≤ i → i < j + n → ∀ k, lo i ≤ k → k < lo i + len i → ¬ P i k = 0)
  | 0, j, A => by
    show bp A = _
    exact bp_congr ⟨fun h => ⟨h, fun i a b => by omega⟩, fun h => h.1⟩
  | n + 1, j, A => by
    unfold it
    rw [and_fold (P j) (len j) (lo j) A, and_fold2 P lo len n (j + 1) _]
    refine bp_congr ⟨fun h => ⟨h.1.1, fun i a b => ?_⟩, fun h => ⟨⟨h.1, h.2 j (by omega) (by omega)⟩, fun i a b => h.2 i (by omega) (by omega)⟩⟩
    by_cases hi : i = j
    · rw [hi]; exact h.1.2
    · exact h.2 i (by omega) (by omega)
theorem q_enough {m : Mem} (h : eq0 m) (ho : okm m 1) (s : Int) : bp (suf (cmm m) s) = eno m s := by
  have hn : CN m := ho.1
  have n0 : 0 ≤ m 2 2 := hn.1
  have h1 := cmm_rel hn (fun x y => (∀ d, 0 ≤ d → d < 16 → 0 ≤ x 74 d) ∧ bp (suf x s) = y) (fun j k y => if ¬ y = 0 ∧ ¬ ia (df m j k) s = 0 then 1 else 0) (bp True) ⟨fun d a b => by rw [fl_74 m ⟨a, b⟩]; decide, bp_congr ⟨fun _ => trivial, fun _ d a b hh => by rw [fl_74 m ⟨a, b⟩] at hh; omega⟩⟩ (fun j k x y _ _ _ hR => by
    have u := df_16 m j k
    refine ⟨fun d a b => by rw [stm_inc]; have := hR.1 d a b; split <;> omega, ?_⟩
    rw [← hR.2, bp_and]
    refine bp_congr ⟨fun hs => ⟨fun d a b hh => hs d a b ⟨by rw [stm_inc]; split <;> omega, hh.2⟩, fun hh => hs _ u.1 u.2 ⟨by rw [stm_eq]; have := hR.1 _ u.1 u.2; omega, hh⟩⟩, fun hs d a b hh => ?_⟩
    by_cases hd : df m j k = d
    · exact hs.2 (by rw [hd]; exact hh.2)
    · rw [stm_inc, if_neg hd, Int.add_zero] at hh
      exact hs.1 d a b hh)
  rw [h1.2, and_fold2 (fun j k => ia (df m j k) s) (fun j => j + 1) (fun j => (m 2 2 - (j + 1)).toNat)]
  have h2 : eno m s = bp (True ∧ ∀ i, 0 ≤ i → i < 0 + ((m 2 2).toNat : Int) → ∀ k, 0 ≤ k → k < 0 + (i.toNat : Int) → ¬ ia (unl m i k) s = 0) := by
    have := and_fold2 (fun j k => ia (unl m j k) s) (fun _ => 0) (fun j => j.toNat) (m 2 2).toNat 0 True
    rw [bp_t trivial] at this
    unfold eno enw enr
    rw [← h.1]
    exact this
  rw [h2]
  refine bp_congr ⟨fun hp => ⟨trivial, fun i a b k c d => ?_⟩, fun hp => ⟨trivial, fun j a b k c d => ?_⟩⟩
  · have := hp.2 k c (by omega) i (by omega) (by omega)
    rw [df_sy m k i, q_df h a (by omega) c (by omega)] at this
    exact this
  · have := hp.2 k (by omega) (by omega) j a (by omega)
    rw [← q_df h (by omega) (by omega) a (by omega), df_sy m k j] at this
    exact this
def bst (E : Int → Prop) (b : Int) : Prop := (b = 15 ∨ E b) ∧ (0 ≤ b ∧ b ≤ 15) ∧ ∀ s, 0 ≤ s → s ≤ 15 → E s → pop b < pop s ∨ (pop b = pop s ∧ b ≤ s)
theorem pop_4 : ∀ s : Nat, s < 16 → pop (s : Int) = 4 → (s : Int) = 15 := by decide
theorem pop_15 : pop 15 = 4 := by decide
theorem bst_u {E : Int → Prop} {b c : Int} (hb : bst E b) (hc : bst E c) : b = c := by
  obtain ⟨b1, b2, b3⟩ := hb
  obtain ⟨c1, c2, c3⟩ := hc
  have hp := pop_15
  have qb := pop_le b; have qc := pop_le c
  have pb := pop_4 b.toNat (by omega)
  have pc := pop_4 c.toNat (by omega)
  rw [Int.toNat_of_nonneg b2.1] at pb
  rw [Int.toNat_of_nonneg c2.1] at pc
  rcases b1 with rfl | b1
  · rcases c1 with rfl | c1
    · rfl
    · have := b3 c c2.1 c2.2 c1
      omega
  · rcases c1 with rfl | c1
    · have := c3 b b2.1 b2.2 b1
      omega
    · have := b3 c c2.1 c2.2 c1
      have := c3 b b2.1 b2.2 b1
      omega
theorem q_least {m : Mem} (h : eq0 m) (ho : okm m 1) : lsf (cmm m) = lnf m := by
  have hp := pop_15
  have hE : ∀ s, (¬ bp (suf (cmm m) s) = 0) ↔ (¬ eno m s = 0) := fun s => by rw [q_enough h ho s]
  have c1 : bst (fun s => ¬ eno m s = 0) (lsf (cmm m)) := by
    have := it_Ij (f := fun s x => if pop s < pop x ∧ ¬ bp (suf (cmm m) s) = 0 then s else x) (fun i x => (x = 15 ∨ (x < i ∧ ¬ eno m x = 0)) ∧ (0 ≤ x ∧ x ≤ 15) ∧ ∀ s, 0 ≤ s → s < i → ¬ eno m s = 0 → pop x < pop s ∨ (pop x = pop s ∧ x ≤ s)) 16 0 15 (fun i x a b hx => by
      obtain ⟨x1, x2, x3⟩ := hx
      have p4 := pop_4 i.toNat (by omega)
      rw [Int.toNat_of_nonneg a] at p4
      try dsimp only
      by_cases hc : pop i < pop x ∧ ¬ bp (suf (cmm m) i) = 0
      · rw [if_pos hc]
        refine ⟨Or.inr ⟨by omega, (hE i).mp hc.2⟩, by omega, fun s s0 s1 hs => ?_⟩
        by_cases hsi : s = i
        · rw [hsi]; right; omega
        · have := x3 s s0 (by omega) hs
          left; omega
      · rw [if_neg hc]
        refine ⟨x1.elim Or.inl (fun x1 => Or.inr ⟨by omega, x1.2⟩), x2, fun s s0 s1 hs => ?_⟩
        by_cases hsi : s = i
        · rw [hsi] at hs ⊢
          have hle : ¬ pop i < pop x := fun hh => hc ⟨hh, (hE i).mpr hs⟩
          rcases x1 with x1 | x1
          · rw [x1] at hle ⊢
            rw [hp] at hle ⊢
            have := pop_le i
            right
            have := p4 (by omega)
            omega
          · omega
        · exact x3 s s0 (by omega) hs) ⟨Or.inl rfl, by decide, fun s s0 s1 => by omega⟩
    obtain ⟨x1, x2, x3⟩ := this
    exact ⟨x1.elim Or.inl (fun x1 => Or.inr x1.2), x2, fun s s0 s1 => x3 s s0 (by omega)⟩
  have c2 : bst (fun s => ¬ eno m s = 0) (lnf m) := by
    have := it_Ij (f := fun j x => if ¬ eno m (15 - j) = 0 ∧ ons (15 - j) ≤ ons x then 15 - j else x) (fun i x => (x = 15 ∨ ¬ eno m x = 0) ∧ (0 ≤ x ∧ x ≤ 15) ∧ ∀ s, 15 - i < s → s ≤ 15 → ¬ eno m s = 0 → pop x < pop s ∨ (pop x = pop s ∧ x ≤ s)) 16 0 15 (fun i x a b hx => by
      obtain ⟨x1, x2, x3⟩ := hx
      have o1 := ons_pop (15 - i).toNat (by omega)
      have o2 := ons_pop x.toNat (by omega)
      rw [Int.toNat_of_nonneg (by omega)] at o1 o2
      try dsimp only
      rw [o1, o2]
      by_cases hc : ¬ eno m (15 - i) = 0 ∧ pop (15 - i) ≤ pop x
      · rw [if_pos hc]
        refine ⟨Or.inr hc.1, by omega, fun s s0 s1 hs => ?_⟩
        by_cases hsi : s = 15 - i
        · rw [hsi]; right; omega
        · have := x3 s (by omega) s1 hs
          omega
      · rw [if_neg hc]
        refine ⟨x1, x2, fun s s0 s1 hs => ?_⟩
        by_cases hsi : s = 15 - i
        · rw [hsi] at hs ⊢
          have hle : ¬ pop (15 - i) ≤ pop x := fun hh => hc ⟨hs, hh⟩
          left; omega
        · exact x3 s (by omega) s1 hs) ⟨Or.inl rfl, by decide, fun s s0 s1 => by omega⟩
    obtain ⟨x1, x2, x3⟩ := this
    exact ⟨x1, x2, fun s s0 s1 => x3 s (by omega) s1⟩
  exact bst_u c1 c2
