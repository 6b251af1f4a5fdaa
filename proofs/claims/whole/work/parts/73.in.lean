/-! ===== the text: both sides take it apart alike ===== -/
def TE (x z : Mem) : Prop := x 52 1 = z 76 4 ∧ x 52 2 = z 76 8 ∧ 0 ≤ x 52 2 ∧ ∀ i, 0 ≤ i → i < x 52 1 → x 53 i = z 79 i
theorem TE.c_ {x z : Mem} (h : TE x z) : cu x = bh z := by
  obtain ⟨h1, h2, h3, h4⟩ := h
  unfold cu bh
  rw [← h1, ← h2]
  by_cases hc : x 52 2 < x 52 1
  · rw [if_pos ⟨h3, hc⟩, if_pos hc]; exact h4 _ h3 hc
  · rw [if_neg (fun q => hc q.2), if_neg hc]
theorem TE.cg {x z x' z' : Mem} (h : TE x z) (a1 : x' 52 1 = x 52 1) (a2 : x' 52 2 = x 52 2) (a3 : x' 53 = x 53) (b1 : z' 76 4 = z 76 4) (b2 : z' 76 8 = z 76 8) (b3 : z' 79 = z 79) : TE x' z' := by
  obtain ⟨h1, h2, h3, h4⟩ := h
  exact ⟨by rw [a1, b1]; exact h1, by rw [a2, b2]; exact h2, by rw [a2]; exact h3, by rw [a1, a3, b3]; exact h4⟩
theorem TE.mv {x z : Mem} (h : TE x z) {p : Int} (hp : 0 ≤ p) : TE (stm x 52 2 p) (stm z 76 8 p) := by
  obtain ⟨h1, h2, h3, h4⟩ := h
  refine ⟨?_, by rw [stm_eq, stm_eq], by rw [stm_eq]; exact hp, ?_⟩
  · rw [stm_ix _ _ _ (by decide), stm_ix _ _ _ (by decide)]; exact h1
  · rw [stm_ix _ _ _ (by decide), stm_ne _ _ _ (by decide), stm_ne _ _ _ (by decide)]; exact h4
theorem TE.ad {x z : Mem} (h : TE x z) : TE (stm x 52 2 (x 52 2 + 1)) (adv z) := by
  have h2 := h.2.1
  have h3 := h.2.2.1
  unfold adv
  rw [← h2]
  exact h.mv (by omega)
theorem skp_cg {t u : Row} {len : Int} (h : ∀ i, 0 ≤ i → i < len → t i = u i) : ∀ (k : Nat) (p : Int), 0 ≤ p → skp t len k p = skp u len k p
  | 0, p, _ => rfl
  | k + 1, p, hp => by
    unfold skp
    by_cases hc : p < len
    · rw [h p hp hc]
      split
      · exact skp_cg h k (p + 1) (by omega)
      · rfl
    · rw [if_neg (fun q => hc q.1), if_neg (fun q => hc q.1)]
theorem skp_ge (t : Row) (len : Int) : ∀ (k : Nat) (p : Int), p ≤ skp t len k p
  | 0, p => Int.le_refl _
  | k + 1, p => by
    unfold skp
    split
    · have := skp_ge t len k (p + 1); omega
    · exact Int.le_refl _
theorem TE.sk {x z : Mem} (h : TE x z) : TE (skm x) (blk z) := by
  obtain ⟨h1, h2, h3, h4⟩ := h
  have e := skp_cg h4 (x 52 1 - x 52 2).toNat (x 52 2) h3
  have hg := skp_ge (z 79) (x 52 1) (x 52 1 - x 52 2).toNat (x 52 2)
  unfold skm blk
  rw [← h1, ← h2, e]
  exact TE.mv ⟨h1, h2, h3, h4⟩ (by omega)
def OR1 (x z : Mem) (o : Int) : Prop := x 54 o = z 82 o ∧ x 55 o = z 83 o ∧ (0 ≤ x 55 o ∧ x 55 o ≤ 6) ∧ (lst (x 54 o) ≤ x 55 o ∧ x 55 o ≤ mo (x 54 o)) ∧ ¬ lst (x 54 o) = -1 ∧ ∀ i, 0 ≤ i → i < x 55 o → x 56 (o * 6 + i) = z 84 (6 * o + i)
def OE (x z : Mem) (n : Int) : Prop := ∀ o, 0 ≤ o → o < n → OR1 x z o
theorem OE.cg {x z x' z' : Mem} {n : Int} (h : OE x z n) (a4 : ∀ o, o < n → x' 54 o = x 54 o) (a5 : ∀ o, o < n → x' 55 o = x 55 o) (a6 : ∀ i, i < n * 6 → x' 56 i = x 56 i) (b2 : ∀ o, o < n → z' 82 o = z 82 o) (b3 : ∀ o, o < n → z' 83 o = z 83 o) (b4 : ∀ i, i < 6 * n → z' 84 i = z 84 i) : OE x' z' n := by
  intro o o0 o1
  obtain ⟨q1, q2, q3, q4, q5, q6⟩ := h o o0 o1
  unfold OR1
  rw [a4 o o1, a5 o o1, b2 o o1, b3 o o1]
  refine ⟨q1, q2, q3, q4, q5, fun i i0 i1 => ?_⟩
  rw [a6 _ (by omega), b4 _ (by omega)]
  exact q6 i i0 i1
theorem skm_ne (x : Mem) {q : Nat} (h : q ≠ 52) : skm x q = x q := stm_ne _ _ _ h
theorem skm_ix (x : Mem) {j : Int} (h : j ≠ 2) : skm x 52 j = x 52 j := stm_ix _ _ _ h
theorem blk_ne (x : Mem) {q : Nat} (h : q ≠ 76) : blk x q = x q := stm_ne _ _ _ h
theorem adv_ne (x : Mem) {q : Nat} (h : q ≠ 76) : adv x q = x q := stm_ne _ _ _ h
/-- what a number leaves behind -/
theorem pn_rnn {x z : Mem} {n i : Int} (h : TE x z) (hz : z 76 9 = n) (hd : 48 ≤ cu x ∧ cu x ≤ 57) :
    (48 ≤ bh (adv z) ∧ bh (adv z) ≤ 57 → TE (pn x n i) (adv (adv z))) ∧ TE (pn x n i) (rnn z i) ∧ (¬ (48 ≤ bh (adv z) ∧ bh (adv z) ≤ 57) → ¬ (48 ≤ cu (pn x n i) ∧ cu (pn x n i) ≤ 57)) ∧ rnn z i 76 9 = n ∧ pn x n i 55 n = i + 1 ∧ pn x n i 54 = x 54 ∧ (∀ o, o ≠ n → pn x n i 55 o = x 55 o) ∧ (∀ j, j ≠ n * 6 + i → pn x n i 56 j = x 56 j) ∧ (∀ j, j ≠ 6 * n + i → rnn z i 84 j = z 84 j) ∧ rnn z i 82 = z 82 ∧ rnn z i 83 = z 83 ∧ pn x n i 56 (n * 6 + i) = rnn z i 84 (6 * n + i) := by
  have hcu := h.c_
  have ha := h.ad
  have hcu2 := ha.c_
  have haa := ha.ad
  rw [stm_eq, stm_stm] at haa
  have e55 : pn x n i 55 n = i + 1 := stm_eq _ _ _ _
  have e54 : pn x n i 54 = x 54 := by unfold pn; rw [stm_ne _ _ _ (by decide), stm_ne _ _ _ (by decide), stm_ne _ _ _ (by decide)]
  have e55o : ∀ o, o ≠ n → pn x n i 55 o = x 55 o := fun o ho => by unfold pn; rw [stm_ix _ _ _ ho, stm_ne _ _ _ (by decide), stm_ne _ _ _ (by decide)]
  have e56 : ∀ j, j ≠ n * 6 + i → pn x n i 56 j = x 56 j := fun j hj => by unfold pn; rw [stm_ne _ _ _ (by decide), stm_ix _ _ _ hj, stm_ne _ _ _ (by decide)]
  have v56 : pn x n i 56 (n * 6 + i) = pnv x := by unfold pn; rw [stm_ne _ _ _ (by decide), stm_eq]
  have p1 : pn x n i 52 1 = x 52 1 := by unfold pn; rw [stm_ne _ _ _ (by decide), stm_ne _ _ _ (by decide), stm_ix _ _ _ (by decide)]
  have p2 : pn x n i 52 2 = pnp x := by unfold pn; rw [stm_ne _ _ _ (by decide), stm_ne _ _ _ (by decide), stm_eq]
  have p3 : pn x n i 53 = x 53 := by unfold pn; rw [stm_ne _ _ _ (by decide), stm_ne _ _ _ (by decide), stm_ne _ _ _ (by decide)]
  by_cases h2 : 48 ≤ bh (adv z) ∧ bh (adv z) ≤ 57
  · have e1 : pnp x = x 52 2 + 1 + 1 := if_pos (by rw [hcu2]; exact h2)
    have e2 : pnv x = (cu x - 48) * 10 + cu (stm x 52 2 (x 52 2 + 1)) - 48 := if_pos (by rw [hcu2]; exact h2)
    have e3 : rnn z i = stm (adv (adv z)) 84 (6 * z 76 9 + i) (10 * (bh z - 48) + bh (adv z) - 48) := if_pos h2
    have t1 : TE (pn x n i) (adv (adv z)) := haa.cg (by rw [p1, stm_ix _ _ _ (by decide)]) (by rw [p2, stm_eq, e1]) (by rw [p3, stm_ne _ _ _ (by decide)]) rfl rfl rfl
    rw [e3, hz]
    refine ⟨fun _ => t1, t1.cg rfl rfl rfl (by rw [stm_ne _ _ _ (by decide)]) (by rw [stm_ne _ _ _ (by decide)]) (stm_ne _ _ _ (by decide)), fun q => absurd h2 q, by rw [stm_ne _ _ _ (by decide), adv_o, adv_o, hz], e55, e54, e55o, e56, fun j hj => by rw [stm_ix _ _ _ hj, adv_ne _ (by decide), adv_ne _ (by decide)], by rw [stm_ne _ _ _ (by decide), adv_ne _ (by decide), adv_ne _ (by decide)], by rw [stm_ne _ _ _ (by decide), adv_ne _ (by decide), adv_ne _ (by decide)], ?_⟩
    rw [v56, stm_eq, e2, hcu, hcu2]
    omega
  · have e1 : pnp x = x 52 2 + 1 := if_neg (by rw [hcu2]; exact h2)
    have e2 : pnv x = cu x - 48 := if_neg (by rw [hcu2]; exact h2)
    have e3 : rnn z i = stm (adv z) 84 (6 * z 76 9 + i) (bh z - 48) := if_neg h2
    have t1 : TE (pn x n i) (adv z) := ha.cg (by rw [p1, stm_ix _ _ _ (by decide)]) (by rw [p2, stm_eq, e1]) (by rw [p3, stm_ne _ _ _ (by decide)]) rfl rfl rfl
    rw [e3, hz]
    refine ⟨fun q => absurd q h2, t1.cg rfl rfl rfl (by rw [stm_ne _ _ _ (by decide)]) (by rw [stm_ne _ _ _ (by decide)]) (stm_ne _ _ _ (by decide)), fun _ => by rw [t1.c_]; exact h2, by rw [stm_ne _ _ _ (by decide), adv_o, hz], e55, e54, e55o, e56, fun j hj => by rw [stm_ix _ _ _ hj, adv_ne _ (by decide)], by rw [stm_ne _ _ _ (by decide), adv_ne _ (by decide)], by rw [stm_ne _ _ _ (by decide), adv_ne _ (by decide)], ?_⟩
    rw [v56, stm_eq, e2, hcu]
theorem nl_rl {n : Int} (n0 : 0 ≤ n) : ∀ (k : Nat) (i : Int) (x z : Mem), 0 ≤ i → i + k ≤ 6 → TE x z → z 76 9 = n → x 55 n = i → (∀ j, 0 ≤ j → j < i → x 56 (n * 6 + j) = z 84 (6 * n + j)) → OE x z n → (nl n k i x).1 = (rl_ k i z).1.1 ∧ TE (nl n k i x).2 (rl_ k i z).2 ∧ (¬ (nl n k i x).1 = 0 → (rl_ k i z).2 76 9 = n ∧ (nl n k i x).2 55 n = (rl_ k i z).1.2 ∧ (i ≤ (rl_ k i z).1.2 ∧ (rl_ k i z).1.2 ≤ i + k) ∧ (∀ j, 0 ≤ j → j < (rl_ k i z).1.2 → (nl n k i x).2 56 (n * 6 + j) = (rl_ k i z).2 84 (6 * n + j)) ∧ OE (nl n k i x).2 (rl_ k i z).2 n ∧ (nl n k i x).2 54 = x 54)
  | 0, i, x, z, i0, i1, h, hz, h55, h56, ho => ⟨rfl, h, fun _ => ⟨hz, h55, by show i ≤ i ∧ i ≤ i + ((0 : Nat) : Int); omega, h56, ho, rfl⟩⟩
  | k + 1, i, x, z, i0, i1, h, hz, h55, h56, ho => by
    have hcu := h.c_
    unfold nl rl_
    by_cases hd : 48 ≤ bh z ∧ bh z ≤ 57
    · have hd2 : 48 ≤ cu x ∧ cu x ≤ 57 := by rw [hcu]; exact hd
      obtain ⟨a1, a2, a3, a4, a5, a6, a7, a8, a9, a10, a11, a12⟩ := pn_rnn (n := n) (i := i) h hz hd2
      rw [if_pos hd, if_pos hd2]
      by_cases h3 : (48 ≤ bh (adv z) ∧ bh (adv z) ≤ 57) ∧ (48 ≤ bh (adv (adv z)) ∧ bh (adv (adv z)) ≤ 57)
      · have t := a1 h3.1
        have hc : 48 ≤ cu (pn x n i) ∧ cu (pn x n i) ≤ 57 := by rw [t.c_]; exact h3.2
        rw [if_pos h3, if_pos hc]
        exact ⟨rfl, t, fun q => absurd rfl q⟩
      · have hc : ¬ (48 ≤ cu (pn x n i) ∧ cu (pn x n i) ≤ 57) := by
          by_cases h2 : 48 ≤ bh (adv z) ∧ bh (adv z) ≤ 57
          · rw [(a1 h2).c_]; exact fun q => h3 ⟨h2, q⟩
          · exact a3 h2
        rw [if_neg h3, if_neg hc]
        have ih := nl_rl n0 k (i + 1) (skm (pn x n i)) (blk (rnn z i)) (by omega) (by omega) a2.sk (by rw [blk_o]; exact a4) (by rw [skm_ne _ (by decide)]; exact a5) (fun j j0 j1 => by
          rw [skm_ne _ (by decide), blk_ne _ (by decide)]
          by_cases hj : j = i
          · rw [hj]; exact a12
          · rw [a8 _ (by omega), a9 _ (by omega)]; exact h56 j j0 (by omega)) (ho.cg (fun o h1 => by rw [skm_ne _ (by decide), a6]) (fun o h1 => by rw [skm_ne _ (by decide)]; exact a7 o (by omega)) (fun j hj => by rw [skm_ne _ (by decide)]; exact a8 j (by omega)) (fun o h1 => by rw [blk_ne _ (by decide), a10]) (fun o h1 => by rw [blk_ne _ (by decide), a11]) (fun j hj => by rw [blk_ne _ (by decide)]; exact a9 j (by omega)))
        refine ⟨ih.1, ih.2.1, fun q => ?_⟩
        obtain ⟨b1, b2, b3, b4, b5, b6⟩ := ih.2.2 q
        exact ⟨b1, b2, by omega, b4, b5, by rw [b6, skm_ne _ (by decide), a6]⟩
    · have hd2 : ¬ (48 ≤ cu x ∧ cu x ≤ 57) := by rw [hcu]; exact hd
      rw [if_neg hd, if_neg hd2]
      exact ⟨rfl, h, fun _ => ⟨hz, h55, by show i ≤ i ∧ i ≤ i + ((k + 1 : Nat) : Int); omega, h56, ho, rfl⟩⟩
theorem po_ro {x z : Mem} {n : Int} (n0 : 0 ≤ n) (h : TE x z) (hz : z 76 9 = n) (ho : OE x z n) : (po x n).1 = (ro z).1 ∧ TE (po x n).2 (ro z).2 ∧ (¬ (po x n).1 = 0 → (ro z).2 76 9 = n + 1 ∧ OE (po x n).2 (ro z).2 (n + 1)) := by
  have hcu := h.c_
  obtain ⟨l1, l2, l3, l4⟩ := mo_lst (bh z)
  unfold po ro
  rw [hcu]
  by_cases hm : lst (bh z) = -1
  · rw [if_pos hm, if_pos (l4.mp hm)]
    exact ⟨rfl, h, fun q => absurd rfl q⟩
  · rw [if_neg hm, if_neg (fun q => hm (l4.mpr q))]
    have hmo := mo_le (bh z)
    have hpof : pof x = lst (bh z) := by
      unfold pof
      rw [hcu]
      by_cases hw : bh z = 119
      · rw [if_pos hw, (l1 hw).2]
      · rw [if_neg hw, l2 hw]
    have t1 : TE (po1 x n) (blk (adv z)) := by
      unfold po1
      refine TE.sk (h.ad.cg ?_ ?_ ?_ rfl rfl rfl)
      · rw [stm_ix _ _ _ (by decide), stm_ix _ _ _ (by decide), stm_ne _ _ _ (by decide), stm_ne _ _ _ (by decide)]
      · rw [stm_eq, stm_eq]
      · rw [stm_ne _ _ _ (by decide), stm_ne _ _ _ (by decide), stm_ne _ _ _ (by decide), stm_ne _ _ _ (by decide)]
    have e54 : ∀ o, po1 x n 54 o = if o = n then bh z else x 54 o := fun o => by
      unfold po1
      rw [skm_ne _ (by decide), stm_ne _ _ _ (by decide), stm_ne _ _ _ (by decide), stm_at, hcu]
    have e55 : ∀ o, po1 x n 55 o = if o = n then 0 else x 55 o := fun o => by
      unfold po1
      rw [skm_ne _ (by decide), stm_ne _ _ _ (by decide), stm_at, stm_ne _ _ _ (by decide)]
    have e56 : po1 x n 56 = x 56 := by
      unfold po1
      rw [skm_ne _ (by decide), stm_ne _ _ _ (by decide), stm_ne _ _ _ (by decide), stm_ne _ _ _ (by decide)]
    have hr := nl_rl n0 (mo (bh z)).toNat 0 (po1 x n) (blk (adv z)) (Int.le_refl _) (by omega) t1 (by rw [blk_o, adv_o]; exact hz) (by rw [e55, if_pos rfl]) (fun j j0 j1 => by omega) (ho.cg (fun o h1 => by rw [e54, if_neg (by omega)]) (fun o h1 => by rw [e55, if_neg (by omega)]) (fun j _ => by rw [e56]) (fun o _ => by rw [blk_ne _ (by decide), adv_ne _ (by decide)]) (fun o _ => by rw [blk_ne _ (by decide), adv_ne _ (by decide)]) (fun o _ => by rw [blk_ne _ (by decide), adv_ne _ (by decide)]))
    have ep : por x n = nl n (mo (bh z)).toNat 0 (po1 x n) := by unfold por; rw [hcu]
    have er : ror z = rl_ (mo (bh z)).toNat 0 (blk (adv z)) := rfl
    rw [ep, er, hpof]
    generalize nl n (mo (bh z)).toNat 0 (po1 x n) = P at hr
    generalize rl_ (mo (bh z)).toNat 0 (blk (adv z)) = Z at hr
    obtain ⟨r1, r2, r3⟩ := hr
    unfold pfn rfn
    rw [r1]
    by_cases hok : Z.1.1 = 0
    · rw [if_pos hok, if_pos hok]
      exact ⟨rfl, r2, fun q => absurd rfl q⟩
    · rw [if_neg hok, if_neg hok]
      obtain ⟨b1, b2, b3, b4, b5, b6⟩ := r3 (by rw [r1]; exact hok)
      rw [b2, r2.c_]
      by_cases hf : bh Z.2 = 59 ∧ lst (bh z) ≤ Z.1.2
      · rw [if_pos hf, if_pos hf]
        dsimp only
        refine ⟨rfl, ?_, fun _ => ⟨by unfold fin_; rw [stm_eq, b1], fun o o0 o1 => ?_⟩⟩
        · refine r2.ad.cg rfl rfl rfl ?_ ?_ ?_
          · unfold fin_; rw [stm_ix _ _ _ (by decide), stm_ne _ _ _ (by decide), stm_ne _ _ _ (by decide)]
          · unfold fin_; rw [stm_ix _ _ _ (by decide), stm_ne _ _ _ (by decide), stm_ne _ _ _ (by decide)]
          · unfold fin_; rw [stm_ne _ _ _ (by decide), stm_ne _ _ _ (by decide), stm_ne _ _ _ (by decide)]
        · have f82 : ∀ o, fin_ (bh z) Z.1.2 Z.2 82 o = if o = n then bh z else Z.2 82 o := fun o => by unfold fin_; rw [stm_ne _ _ _ (by decide), stm_ne _ _ _ (by decide), stm_at, b1, adv_ne _ (by decide)]
          have f83 : ∀ o, fin_ (bh z) Z.1.2 Z.2 83 o = if o = n then Z.1.2 else Z.2 83 o := fun o => by unfold fin_; rw [stm_ne _ _ _ (by decide), stm_at, b1, stm_ne _ _ _ (by decide), adv_ne _ (by decide)]
          have f84 : fin_ (bh z) Z.1.2 Z.2 84 = Z.2 84 := by unfold fin_; rw [stm_ne _ _ _ (by decide), stm_ne _ _ _ (by decide), stm_ne _ _ _ (by decide), adv_ne _ (by decide)]
          unfold OR1
          rw [f82, f83, f84, stm_ne _ _ _ (by decide), stm_ne _ _ _ (by decide), stm_ne _ _ _ (by decide)]
          by_cases hon : o = n
          · rw [if_pos hon, if_pos hon, hon, b2, b6, e54, if_pos rfl]
            exact ⟨rfl, rfl, by omega, ⟨hf.2, by omega⟩, hm, b4⟩
          · rw [if_neg hon, if_neg hon]
            exact b5 o o0 (by omega)
      · rw [if_neg hf, if_neg hf]
        exact ⟨rfl, r2, fun q => absurd rfl q⟩
theorem pl_ra : ∀ (k : Nat) (n : Int) (x z : Mem), 0 ≤ n → TE (skm x) z → z 76 9 = n → x 52 6 = n → OE x z n → ((ra_ k z).1 = 0 → (pl k n x).1 = (ra_ k z).2 76 8 ∧ 0 ≤ (pl k n x).1) ∧ (¬ (ra_ k z).1 = 0 → (pl k n x).1 = -1 ∧ (pl k n x).2 52 6 = (ra_ k z).2 76 9 ∧ OE (pl k n x).2 (ra_ k z).2 ((ra_ k z).2 76 9))
  | 0, n, x, z, n0, h, hz, h6, ho => ⟨fun q => absurd q (by show ¬ (1 : Int) = 0; decide), fun _ => ⟨rfl, by show x 52 6 = z 76 9; omega, by show OE x z (z 76 9); rw [hz]; exact ho⟩⟩
  | k + 1, n, x, z, n0, h, hz, h6, ho => by
    have e1 : x 52 1 = z 76 4 := by rw [← h.1, skm_ix _ (by decide)]
    have e2 := h.2.1
    have hs : OE (skm x) z n := ho.cg (fun o _ => by rw [skm_ne _ (by decide)]) (fun o _ => by rw [skm_ne _ (by decide)]) (fun o _ => by rw [skm_ne _ (by decide)]) (fun _ _ => rfl) (fun _ _ => rfl) (fun _ _ => rfl)
    unfold pl ra_
    by_cases hc : z 76 8 < z 76 4 ∨ z 76 9 = 0
    · rw [if_pos hc, if_neg (show ¬ (0 < n ∧ x 52 1 ≤ skm x 52 2) by omega)]
      obtain ⟨p1, p2, p3⟩ := po_ro n0 h hz hs
      rw [p1]
      by_cases hr : (ro z).1 = 0
      · rw [if_pos hr, if_pos hr]
        exact ⟨fun _ => ⟨p2.2.1, p2.2.2.1⟩, fun q => absurd rfl q⟩
      · rw [if_neg hr, if_neg hr]
        obtain ⟨q1, q2⟩ := p3 (by rw [p1]; exact hr)
        have t : TE (stm (po (skm x) n).2 52 6 (n + 1)) (ro z).2 := p2.cg (stm_ix _ _ _ (by decide)) (stm_ix _ _ _ (by decide)) (stm_ne _ _ _ (by decide)) rfl rfl rfl
        exact pl_ra k (n + 1) _ _ (by omega) t.sk (by rw [blk_o]; exact q1) (stm_eq _ _ _ _) (q2.cg (fun o _ => by rw [stm_ne _ _ _ (by decide)]) (fun o _ => by rw [stm_ne _ _ _ (by decide)]) (fun o _ => by rw [stm_ne _ _ _ (by decide)]) (fun o _ => by rw [blk_ne _ (by decide)]) (fun o _ => by rw [blk_ne _ (by decide)]) (fun o _ => by rw [blk_ne _ (by decide)]))
    · rw [if_neg hc, if_pos (show 0 < n ∧ x 52 1 ≤ skm x 52 2 by omega)]
      exact ⟨fun q => absurd q (by show ¬ (1 : Int) = 0; decide), fun _ => ⟨rfl, by show skm x 52 6 = z 76 9; rw [skm_ix _ (by decide)]; omega, by show OE (skm x) z (z 76 9); rw [hz]; exact hs⟩⟩
theorem q_parse {x z : Mem} (h1 : x 52 1 = z 76 4) (h2 : ∀ i, 0 ≤ i → i < x 52 1 → x 53 i = z 79 i) : ((rdA z).1 = 0 → (prs x).1 = (rdA z).2 76 8 ∧ 0 ≤ (prs x).1) ∧ (¬ (rdA z).1 = 0 → (prs x).1 = -1 ∧ (prs x).2 52 6 = (rdA z).2 76 9 ∧ OE (prs x).2 (rdA z).2 ((rdA z).2 76 9)) := by
  have t : TE (stm (stm x 52 6 0) 52 2 0) (stm (stm z 76 8 0) 76 9 0) := by
    refine ⟨?_, ?_, ?_, ?_⟩
    · rw [stm_ix _ _ _ (by decide), stm_ix _ _ _ (by decide), stm_ix _ _ _ (by decide), stm_ix _ _ _ (by decide)]; exact h1
    · rw [stm_eq, stm_ix _ _ _ (by decide), stm_eq]
    · rw [stm_eq]; exact Int.le_refl _
    · rw [stm_ix _ _ _ (by decide), stm_ix _ _ _ (by decide), stm_ne _ _ _ (by decide), stm_ne _ _ _ (by decide), stm_ne _ _ _ (by decide), stm_ne _ _ _ (by decide)]; exact h2
  exact pl_ra 60 0 _ _ (Int.le_refl _) t.sk (by unfold rb0; rw [blk_o, stm_eq]) (by rw [stm_ix _ _ _ (by decide), stm_eq]) (fun o o0 o1 => by omega)
