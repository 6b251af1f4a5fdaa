/-! ===== the path ===== -/
theorem it_2 {α : Type} (g : Int → α → α) : ∀ (n : Nat) (j : Int) (x : α), it (fun j x => g (2 * j + 1) (g (2 * j) x)) j n x = it g (2 * j) (2 * n) x
  | 0, j, x => rfl
  | n + 1, j, x => by
    show it (fun j x => g (2 * j + 1) (g (2 * j) x)) (j + 1) n (g (2 * j + 1) (g (2 * j) x)) = _
    rw [it_2 g n (j + 1), show 2 * (n + 1) = 2 * n + 1 + 1 by omega]
    show _ = it g (2 * j + 1 + 1) (2 * n) (g (2 * j + 1) (g (2 * j) x))
    rw [show 2 * (j + 1) = 2 * j + 1 + 1 by omega]
def spt (z : Mem) (k : Int) : Int := z 77 (82 + 3 * (k / 2) + (1 + k % 2))
theorem spt_le {x z : Mem} (h : SE x z) {k : Int} (k0 : 0 ≤ k) (k1 : k < 2 * x 5 1) : -1 ≤ spt z k ∧ spt z k ≤ 5 := by
  have o6 := h.1.2.2.2.2.2.1 (k / 2) (by omega) (by omega)
  have e3 := h.2.2.2.2.1 (k / 2)
  unfold spt
  rcases (by omega : k % 2 = 0 ∨ k % 2 = 1) with hk | hk
  · rw [hk, show (1 : Int) + 0 = 1 from rfl, ← e3 1 (by omega) (by omega) (by omega) (by omega)]; exact o6.2.1
  · rw [hk, show (1 : Int) + 1 = 2 from rfl, ← e3 2 (by omega) (by omega) (by omega) (by omega)]; exact o6.2.2
theorem fwm_eq {x z : Mem} (h : SE x z) : fwm x = it (fun k X => pa X (spt z k)) 0 (2 * (x 5 1).toNat) (stm x 64 1 0) := by
  have e3 := h.2.2.2.2.1
  have h2 := it_2 (fun k X => pa X (spt z k)) (x 5 1).toNat 0 (stm x 64 1 0)
  rw [show 2 * (0 : Int) = 0 from rfl] at h2
  rw [← h2]
  unfold fwm
  refine it_cgI (fun X => X 6 = x 6) _ _ _ (stm_ne _ _ _ (by decide)) (fun j X a b hX => ?_) (fun j X a b hX => ?_)
  · show pw j X 6 = x 6
    unfold pw
    rw [pa_ne _ _ (by decide) (by decide), pa_ne _ _ (by decide) (by decide)]
    exact hX
  · have s1 : X 6 (j * 3 + 1) = spt z (2 * j) := by
      unfold spt
      rw [hX, e3 j 1 a (by omega) (by omega) (by omega)]
      exact congrArg (z 77) (by omega)
    have s2 : X 6 (j * 3 + 2) = spt z (2 * j + 1) := by
      unfold spt
      rw [hX, e3 j 2 a (by omega) (by omega) (by omega)]
      exact congrArg (z 77) (by omega)
    show pw j X = pa (pa X (spt z (2 * j))) (spt z (2 * j + 1))
    unfold pw
    rw [pa_ne _ _ (q := 6) (by decide) (by decide), s1, s2]
def plen (r p : Int → Int) (n : Int) : Int := it (fun i x => x + ab (p (r i) - p (r (i - 1)))) 1 (n - 1).toNat 0
theorem plen_s {r r' p : Int → Int} {n : Int} (n0 : 0 ≤ n) (hr : ∀ i, 0 ≤ i → i < n → r' i = r i) : plen r' p (n + 1) = if n = 0 then 0 else plen r p n + ab (p (r' n) - p (r (n - 1))) := by
  unfold plen
  by_cases h : n = 0
  · rw [if_pos h, h]; rfl
  · rw [if_neg h, show (n + 1 - 1).toNat = (n - 1).toNat + 1 by omega, it_succ, show 1 + ((n - 1).toNat : Int) = n by omega, hr (n - 1) (by omega) (by omega)]
    rw [it_cg (g := fun i x => x + ab (p (r i) - p (r (i - 1)))) _ _ _ (fun i x a b => by rw [hr i (by omega) (by omega), hr (i - 1) (by omega) (by omega)])]
theorem fw_rel {x z : Mem} (h : SE x z) {β : Type} (g : Int → β → β) (R : Mem → β → Prop) (y0 : β) (h0 : ∀ X : Mem, X 64 1 = 0 → R X y0) (hs : ∀ (k : Int) (X : Mem) (y : β), (0 ≤ k ∧ k < 2 * x 5 1) → R X y → (spt z k = -1 → R X (g k y)) ∧ (¬ spt z k = -1 → (0 ≤ spt z k ∧ spt z k ≤ 5) → (0 ≤ X 64 1 ∧ X 64 1 < 32) → ∀ X' : Mem, X' 64 1 = X 64 1 + 1 → X' 65 (X 64 1) = spt z k → (∀ i, 0 ≤ i → i < X 64 1 → X' 65 i = X 65 i) → R X' (g k y))) : R (fwm x) (it g 0 (2 * (x 5 1).toNat) y0) := by
  have o2 := h.1.2.1
  rw [fwm_eq h]
  have hr := it_rel (f := fun k X => pa X (spt z k)) (g := g) (fun k X y => (0 ≤ X 64 1 ∧ X 64 1 ≤ k) ∧ R X y) (2 * (x 5 1).toNat) 0 (stm x 64 1 0) y0 (fun k X y a b hR => by
    obtain ⟨r1, r2⟩ := hR
    obtain ⟨s1, s2⟩ := hs k X y ⟨a, by omega⟩ r2
    have sl := spt_le h a (by omega)
    by_cases hm : spt z k = -1
    · have e : pa X (spt z k) = X := if_neg (by omega)
      rw [e]
      exact ⟨by omega, s1 hm⟩
    · have e : pa X (spt z k) = stm (stm X 65 (X 64 1) (spt z k)) 64 1 (X 64 1 + 1) := if_pos (by omega)
      rw [e]
      refine ⟨by rw [stm_eq]; omega, s2 hm (by omega) (by omega) _ (stm_eq _ _ _ _) ?_ (fun i i0 i1 => ?_)⟩
      · rw [stm_ne _ _ _ (by decide), stm_eq]
      · rw [stm_ne _ _ _ (by decide), stm_ix _ _ _ (by omega)]) ⟨by rw [stm_eq]; omega, h0 _ (stm_eq _ _ _ _)⟩
  exact hr.2
theorem q_way {x z : Mem} (h : SE x z) {p : Int → Int} (hp : ∀ s, 0 ≤ s → s ≤ 5 → p s = z 80 s) : way_ z = plen (fwm x 65) p (fwm x 64 1) := by
  have e1 := h.2.2.1
  have o2 := h.1.2.1
  have hr := fw_rel h (fun k (y : Int × Int) => wyr z k y) (fun X y => y.1 = plen (X 65) p (X 64 1) ∧ y.2 = (if X 64 1 = 0 then -1 else X 65 (X 64 1 - 1)) ∧ (X 64 1 = 0 ∨ (0 ≤ y.2 ∧ y.2 ≤ 5))) (0, -1) (fun X hX => by rw [hX]; exact ⟨rfl, rfl, Or.inl rfl⟩) (fun k X y hk hR => by
    obtain ⟨r1, r2, r3⟩ := hR
    refine ⟨fun hm => ?_, fun hm hs hn X' x1 x2 x3 => ?_⟩
    · have e : wyr z k y = y := if_pos hm
      rw [e]; exact ⟨r1, r2, r3⟩
    · have e : wyr z k y = (y.1 + (if y.2 = -1 then 0 else ab (z 80 y.2 - z 80 (spt z k))), spt z k) := if_neg hm
      rw [e, x1]
      refine ⟨?_, ?_, Or.inr hs⟩
      · rw [plen_s (r := X 65) hn.1 x3]
        show y.1 + (if y.2 = -1 then 0 else ab (z 80 y.2 - z 80 (spt z k))) = _
        by_cases h0 : X 64 1 = 0
        · rw [if_pos h0] at r2 ⊢
          rw [if_pos r2, r1, h0]; rfl
        · rw [if_neg h0] at r2 ⊢
          have r4 : 0 ≤ y.2 ∧ y.2 ≤ 5 := r3.elim (fun q => absurd q h0) id
          rw [if_neg (by omega), r1, x2, ← r2, hp _ hs.1 hs.2, hp _ r4.1 r4.2, ab_sy]
      · show spt z k = if X 64 1 + 1 = 0 then -1 else X' 65 (X 64 1 + 1 - 1)
        rw [if_neg (by omega), show X 64 1 + 1 - 1 = X 64 1 by omega, x2])
  have e : way_ z = (it (fun k y => wyr z k y) 0 (2 * (x 5 1).toNat) (0, -1)).1 := by
    unfold way_
    rw [← e1, show (2 * x 5 1).toNat = 2 * (x 5 1).toNat by omega]
  rw [e]
  exact hr.1
theorem ple_plen {y : Mem} : ple y = plen (y 65) (y 7) (y 64 1) := rfl
theorem pss_eq {x z : Mem} (h : SE x z) : pss (fwm x) = spa z := by
  have e1 := h.2.2.1
  have o2 := h.1.2.1
  have hr := fw_rel h (fun k (y : Int) => io y (if spt z k = -1 then 0 else 1 * 2 ^ (spt z k).toNat)) (fun X y => 0 ≤ y ∧ y = it (fun n x => io x (1 * 2 ^ (X 65 n).toNat)) 0 (X 64 1).toNat 0) 0 (fun X hX => by rw [hX]; exact ⟨Int.le_refl _, rfl⟩) (fun k X y hk hR => by
    obtain ⟨r1, r2⟩ := hR
    refine ⟨fun hm => ?_, fun hm hs hn X' x1 x2 x3 => ⟨io_nn _ _, ?_⟩⟩
    · rw [if_pos hm, io_0 r1]; exact ⟨r1, r2⟩
    · rw [if_neg hm, x1, show (X 64 1 + 1).toNat = (X 64 1).toNat + 1 by omega, it_succ, Int.zero_add, Int.toNat_of_nonneg hn.1, x2, r2]
      refine congrArg (fun v => io v _) (it_cg _ _ _ (fun i v a b => ?_))
      rw [x3 i a (by omega)])
  have e : spa z = it (fun k y => io y (if spt z k = -1 then 0 else 1 * 2 ^ (spt z k).toNat)) 0 (2 * (x 5 1).toNat) 0 := by
    have h2 := it_2 (fun k y => io y (if spt z k = -1 then 0 else 1 * 2 ^ (spt z k).toNat)) (x 5 1).toNat 0 0
    rw [show 2 * (0 : Int) = 0 from rfl] at h2
    rw [← h2]
    unfold spa
    rw [← e1]
    refine it_cg _ _ _ (fun i v a b => ?_)
    have s1 : spt z (2 * i) = z 77 (82 + 3 * i + 1) := by unfold spt; exact congrArg (z 77) (by omega)
    have s2 : spt z (2 * i + 1) = z 77 (82 + 3 * i + 2) := by unfold spt; exact congrArg (z 77) (by omega)
    rw [s1, s2]
    rfl
  rw [e]
  exact hr.2.symm
theorem fwm_pl {x z : Mem} (h : SE x z) (hM : MR x) : (0 ≤ fwm x 64 1 ∧ fwm x 64 1 ≤ 32) ∧ ∀ n, 0 ≤ n → n < fwm x 64 1 → 0 ≤ fwm x 65 n ∧ fwm x 65 n ≤ 5 := by
  have o2 := h.1.2.1
  obtain ⟨-, -, f3, f4⟩ := fwm_I hM (show SN x from o2)
  exact ⟨by omega, f4⟩
/-! the steps between the spots -/
def cst (M : Int → Int) (q : Int → Int) (n : Nat) : Int := sm (fun u => sm (fun t => M (u * 6 + t) * ab (q u - q t)) u.toNat) n
theorem cst_inc {M M' q : Int → Int} {a b : Int} (ha : 0 ≤ a ∧ a ≤ 5) (hb : 0 ≤ b ∧ b ≤ 5) (h : ∀ i, M' i = M i + (if mx a b * 6 + mn a b = i then 1 else 0)) : cst M' q 6 = cst M q 6 + ab (q b - q a) := by
  unfold cst
  have hab : ab (q b - q a) = ab (q (mx a b) - q (mn a b)) := by
    rcases (by omega : a < b ∨ a = b ∨ b < a) with hl | hl | hl
    · have q1 : mx a b = b := by unfold mx; rw [if_pos hl]
      have q2 : mn a b = a := by unfold mn; rw [if_neg (by omega)]
      rw [q1, q2]
    · subst hl
      have q1 : mx a a = a := by unfold mx; split <;> rfl
      have q2 : mn a a = a := by unfold mn; split <;> rfl
      rw [q1, q2]
    · have q1 : mx a b = a := by unfold mx; rw [if_neg (by omega)]
      have q2 : mn a b = b := by unfold mn; rw [if_pos hl]
      rw [q1, q2, ab_sy]
  have hm : 0 ≤ mn a b ∧ mn a b ≤ mx a b ∧ mx a b ≤ 5 := by unfold mx mn; (repeat' split) <;> omega
  have e1 : sm (fun u => sm (fun t => M' (u * 6 + t) * ab (q u - q t)) u.toNat) 6 = sm (fun u => sm (fun t => M (u * 6 + t) * ab (q u - q t)) u.toNat + sm (fun t => (if mx a b * 6 + mn a b = u * 6 + t then 1 else 0) * ab (q u - q t)) u.toNat) 6 := sm_cg 6 (fun u u0 u1 => by
    rw [← sm_add]
    refine sm_cg _ (fun t t0 t1 => ?_)
    rw [h, Int.add_mul])
  rw [e1, sm_add, hab]
  refine congrArg _ ?_
  rw [sm_one (k := mx a b) 6 (by omega) (by omega) (fun u u0 u1 hu => sm_0 _ (fun t t0 t1 => by rw [if_neg (by omega), Int.zero_mul]))]
  by_cases hd : mn a b = mx a b
  · rw [sm_0 _ (fun t t0 t1 => by rw [if_neg (by omega), Int.zero_mul]), hd, Int.sub_self]; rfl
  · rw [sm_one (k := mn a b) _ hm.1 (by omega) (fun t t0 t1 ht => by rw [if_neg (by omega), Int.zero_mul]), if_pos rfl, Int.one_mul]
theorem asm_cst {y : Mem} (hc : 0 ≤ y 64 1 ∧ y 64 1 ≤ 32) (hp : ∀ n, 0 ≤ n → n < y 64 1 → 0 ≤ y 65 n ∧ y 65 n ≤ 5) (q : Int → Int) : cst (asm_ y 67) q 6 = plen (y 65) q (y 64 1) := by
  have hr := it_rel (f := fun n x => ast n x) (g := fun i (v : Int) => v + ab (q (y 65 i) - q (y 65 (i - 1)))) (fun _ X v => X 65 = y 65 ∧ cst (X 67) q 6 = v) (y 64 1 - 1).toNat 1 (flm y 67 36 0) 0 (fun n X v a b hR => by
    obtain ⟨r1, r2⟩ := hR
    unfold ast
    refine ⟨(stm_ne _ _ _ (by decide)).trans r1, ?_⟩
    rw [r1, cst_inc (M := X 67) (a := y 65 (n - 1)) (b := y 65 n) (hp _ (by omega) (by omega)) (hp _ (by omega) (by omega)) (fun i => stm_inc _ _ _ _), r2]) ⟨flm_ne (by decide) _ _ _ _, sm_0 6 (fun u u0 u1 => sm_0 _ (fun t t0 t1 => by
      rw [show flm y 67 36 0 67 (u * 6 + t) = 0 from (fl_get 36 0 _ y).1 (by omega), Int.zero_mul]))⟩
  exact hr.2
