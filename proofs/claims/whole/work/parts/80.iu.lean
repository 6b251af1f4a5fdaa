/-! ===== reads ===== -/
theorem xrl_ne {q : Nat} (hq : q < 2 ∨ 7 < q) : ∀ (c : Nat) (k : Int) (x : Mem), (xrl c k x).2 q = x q
  | 0, _, _ => rfl
  | c + 1, k, x => by
    unfold xrl
    split
    · exact xcx_ne x k hq
    · rw [xrl_ne hq c]; exact xcx_ne x k hq
theorem dox_hi {z : Mem} (hn : NM z) (hc : CMd z) (k : Int) {i : Int} (hi : 140 ≤ i) : dox z k 77 i = z 77 i := by
  have n1 := hn.1; have n2 := hn.2; have c1 := hc.1; have c2 := hc.2
  unfold dox
  split
  · split
    · next hd => exact adm_out _ _ _ _ _ _ (by omega) (by have := cns_0 hd hn; omega)
    · rfl
  · split
    · split
      · next hd => exact sym_out _ _ _ _ ⟨c1, csy_0 hd hc⟩ (by omega)
      · rfl
    · split
      · split
        · next hr => exact stm_ix _ _ _ (by omega)
        · rfl
      · split
        · unfold lax_
          split
          · exact (lcm_7 z _).1 i (Or.inr hi)
          · rfl
        · split
          · split
            · exact gos_out _ ⟨n1, n2⟩ c2 (by omega)
            · rfl
          · exact stm_ix _ _ _ (by omega)
theorem rdl_hi {i : Int} (hi : 140 ≤ i) : ∀ (c : Nat) (k : Int) (z : Mem), dgd c k z → (rdl c k z).2 77 i = z 77 i
  | 0, _, _, _ => rfl
  | c + 1, k, z, h => by
    obtain ⟨h1, h2⟩ := h
    unfold rdl
    split
    · rfl
    · next hd => rw [rdl_hi hi c _ _ (h2 hd)]; exact dox_hi h1.2.1 h1.2.2.1 k hi
theorem mdm_far {m : Mem} (hs : ST m) {j : Int} (hj : 840 ≤ j) : mdm m 77 j = m 77 j := by
  have hb := md1_st hs
  rw [mdm_at hs, if_neg (by omega), md1_at, md0_at, if_neg (show ¬ (140 ≤ j ∧ j < 700) by omega)]
  split <;> rfl
/-- the reference's scratch while it takes the text apart -/
theorem rdA_go {m1 : Mem} (hM : MR m1) (hl : 0 ≤ m1 76 4 ∧ m1 76 4 ≤ 120) : MR (rdA m1).2 ∧ (∀ q : Nat, q ≤ 75 ∨ (77 ≤ q ∧ q ≤ 81) → (rdA m1).2 q = m1 q) ∧ (∀ j, j ≠ 8 → j ≠ 9 → (rdA m1).2 76 j = m1 76 j) :=
  ⟨(rdA_I hM hl).1.1, fun q hq => rdA_ne m1 (by omega) (by omega) (by omega) (by omega), fun j h8 h9 => rdA_76 m1 h8 h9⟩
theorem INV.ra_ {e : Int} {m : Mem} (h : INV e m) : INV e (rdA m).2 := by
  obtain ⟨r1, r2, r3⟩ := rdA_go h.1 (by rw [h.2.2.2.2.1.2.1]; exact h.2.2.2.2.1.1)
  refine h.txt r1 (fun q hq => r2 q (by omega)) (r3 1 (by decide) (by decide)) ?_
  rw [r2 52 (by omega), r2 53 (by omega), r2 79 (by omega), r3 4 (by decide) (by decide)]
  exact h.2.2.2.2.1
theorem INV.pr_ {e : Int} {m : Mem} (h : INV e m) : INV e (prs m).2 := by
  have ht := h.2.2.2.2.1
  obtain ⟨p1, p2, p3, p4⟩ := prs_I h.1 ht.1
  have pn : ∀ q : Nat, q ≠ 52 → q ≠ 54 → q ≠ 55 → q ≠ 56 → (prs m).2 q = m q := fun q a b c d => prs_ne m a b c d
  refine h.txt p1.1 (fun q hq => pn q (by omega) (by omega) (by omega) (by omega)) (by rw [pn 76 (by decide) (by decide) (by decide) (by decide)]) ?_
  rw [p3, pn 53 (by decide) (by decide) (by decide) (by decide), pn 76 (by decide) (by decide) (by decide) (by decide), pn 79 (by decide) (by decide) (by decide) (by decide)]
  exact ht
/-- both sides go through the orders; R: what the reference made of the text -/
theorem rd_both {e : Int} {P R : Mem} {n : Int} (h : INV e P) (hR : MR R) (h77 : ∀ i, i < 840 → R 77 i = P 77 i) (h6 : P 52 6 = n) (h60 : 0 ≤ n ∧ n ≤ 60) (ho : OE P R n) : xgd n.toNat 0 (stg P) ∧ dgd n.toNat 0 (mcp R 0 840) ∧ (xrl n.toNat 0 (stg P)).1 = (rdl n.toNat 0 (mcp R 0 840)).1 ∧ MR (xrl n.toNat 0 (stg P)).2 ∧ MR (rdl n.toNat 0 (mcp R 0 840)).2 ∧ ((xrl n.toNat 0 (stg P)).1 = -1 → SE (xrl n.toNat 0 (stg P)).2 (rdl n.toNat 0 (mcp R 0 840)).2) := by
  have hI := h.sg
  have hpx := h.2.2.2.1.1
  have hS : SE (stg P) (mcp R 0 840) := hI.se.cgz (fun i i0 i1 => by rw [mcp_lo _ _ _ (by omega), h77 i (by omega), stg_ne P (by decide) hpx])
  obtain ⟨a1, a2, a3, a4, a5, a6, a7⟩ := ex_rel (n := n) h60.2 n.toNat 0 (stg P) (mcp R 0 840) (by omega) (Int.le_refl _) hS hI.1 (mcp_MR hR _ _) (ho.cg (fun o _ => by rw [stg_ne P (by decide) hpx]) (fun o _ => by rw [stg_ne P (by decide) hpx]) (fun o _ => by rw [stg_ne P (by decide) hpx]) (fun o _ => by rw [mcp_ne _ _ _ (by decide)]) (fun o _ => by rw [mcp_ne _ _ _ (by decide)]) (fun o _ => by rw [mcp_ne _ _ _ (by decide)])) (by rw [stg_ne P (by decide) hpx]; exact h6)
  exact ⟨a1, a2, a3, a5, a6, a7⟩
theorem mdm_cg0 {m z : Mem} (hs : ST m) (h1 : z 76 1 = m 76 1) (h7 : ∀ i, 0 ≤ i → i < 840 → z 77 i = m 77 i) : mdm z 76 1 = mdm m 76 1 ∧ ∀ j, 0 ≤ j → j < 840 → mdm z 77 j = mdm m 77 j := by
  have hz : ST z := by unfold ST; rw [h1]; exact hs
  have e1 : md1 z 76 1 = md1 m 76 1 := by rw [md1_1, md1_1, h1]
  have hb := md1_st hs
  have e7 : ∀ j, 0 ≤ j → j < 840 → md1 z 77 j = md1 m 77 j := fun j j0 hj => by
    rw [md1_at, md1_at, h1, md0_at, md0_at, h7 j j0 hj]
    split
    · split
      · exact h7 _ (by omega) (by omega)
      · rfl
    · rfl
  refine ⟨by rw [mdm_1 hz, mdm_1 hs, h1], fun j j0 hj => ?_⟩
  rw [mdm_at hz, mdm_at hs, e1]
  split
  · exact e7 _ (by omega) (by omega)
  · exact e7 j j0 hj
/-- all orders were possible -/
theorem rd_yes {e : Int} {P X Z R : Mem} (h : INV e P) (hX : ∀ q : Nat, q < 2 ∨ 7 < q → X q = stg P q) (hMZ : MR Z) (hZq : ∀ q : Nat, q ≤ 75 ∨ (78 ≤ q ∧ q ≤ 79) → Z q = ks X q) (h761 : Z 76 1 = P 76 1) (h764 : Z 76 4 = P 76 4) (hZ : ∀ i, 140 ≤ i → Z 77 i = mcp R 0 840 77 i) (hR : ∀ i, 0 ≤ i → i < 840 → R 77 i = P 77 i) (hS : SE X Z) : INV e (rde Z) := by
  have hpx := h.2.2.2.1.1
  have hs := h.2.2.2.1.st
  have e1 : ∀ p : Nat, p = 8 ∨ 52 ≤ p → X p = P p := fun p hp => by rw [hX p (by omega), stg_ne P (by omega) hpx]
  have w76 : ∀ j, mcp (mcp Z 0 980) 840 0 76 j = Z 76 j := fun j => by rw [mcp_ne _ _ _ (by decide), mcp_ne _ _ _ (by decide)]
  have wq : ∀ q : Nat, q ≠ 77 → mcp (mcp Z 0 980) 840 0 q = Z q := fun q hq => by rw [mcp_ne _ _ _ hq, mcp_ne _ _ _ hq]
  have w77 : ∀ i, mcp (mcp Z 0 980) 840 0 77 i = if 0 ≤ i ∧ i < 140 then Z 77 (840 + i) else if 980 ≤ i ∧ i < 1120 then Z 77 (i - 980) else Z 77 i := fun i => by
    rw [mcp_at _ (Or.inl (by decide))]
    by_cases hi : 0 ≤ i ∧ i < 140
    · rw [if_pos hi, if_pos (by omega), mcp_lo _ _ _ (by omega)]
      exact congrArg (Z 77) (by omega)
    · rw [if_neg hi, if_neg (by omega), mcp_at _ (Or.inr (by decide))]
      by_cases hj : 980 ≤ i ∧ i < 1120
      · rw [if_pos hj, if_pos (by omega)]
        exact congrArg (Z 77) (by omega)
      · rw [if_neg hj, if_neg (by omega)]
  have hMW : MR (mcp (mcp Z 0 980) 840 0) := mcp_MR (mcp_MR hMZ _ _) _ _
  unfold rde
  generalize mcp (mcp Z 0 980) 840 0 = W at w76 wq w77 hMW ⊢
  have w7 : ∀ i, 0 ≤ i → i < 840 → W 77 i = P 77 i := fun i i0 hi => by
    rw [w77]
    by_cases h0 : 0 ≤ i ∧ i < 140
    · rw [if_pos h0, hZ _ (by omega), mcp_at _ (Or.inr (by decide)), if_pos (by omega), hR _ (by omega) (by omega)]
      exact congrArg (P 77) (by omega)
    · rw [if_neg h0, if_neg (by omega), hZ _ (by omega), mcp_lo _ _ _ (by omega), hR _ i0 hi]
  have hw1 : W 76 1 = P 76 1 := by rw [w76, h761]
  have hsW : ST W := by unfold ST; rw [hw1]; exact hs
  obtain ⟨m1, m2⟩ := mdm_cg0 hs hw1 w7
  have y77 : ∀ i, mcp (mdm W) 980 0 77 i = if 0 ≤ i ∧ i < 140 then Z 77 i else mdm W 77 i := fun i => by
    rw [mcp_at _ (Or.inl (by decide))]
    by_cases hi : 0 ≤ i ∧ i < 140
    · rw [if_pos hi, if_pos (by omega), mdm_far hsW (by omega), w77, if_neg (by omega), if_pos (by omega)]
      exact congrArg (Z 77) (by omega)
    · rw [if_neg hi, if_neg (by omega)]
  have yq : ∀ q : Nat, q ≠ 76 → q ≠ 77 → mcp (mdm W) 980 0 q = Z q := fun q q1 q2 => by rw [mcp_ne _ _ _ q2, mdm_ne _ q1 q2, wq q q2]
  refine h.push (x := X) (e1 8 (by omega)) (fun q q1 q2 => hX q (by omega)) (by rw [e1 52 (by omega)]) (e1 53 (by omega)) (e1 75 (by omega)) ?_ (fun q q1 => ?_) ?_ ?_ (fun i i0 i1 => ?_) ?_ ?_ (mcp_MR (mdm_MR hMW hsW) _ _) (hS.cgz (fun i i0 i1 => ?_))
  · unfold TRL; rw [e1 68 (by omega)]; exact h.2.2.2.2.2.1
  · rw [yq q (by omega) (by omega)]; exact hZq q (by omega)
  · rw [mcp_ne _ _ _ (by decide)]; exact m1
  · rw [mcp_ne _ _ _ (by decide), mdm_76 _ (by decide), w76, h764]
  · rw [y77, if_neg (by omega)]; exact m2 i (by omega) i1
  · rw [yq 78 (by decide) (by decide), hZq 78 (by omega), ks_ne _ (by decide), e1 78 (by omega)]
  · rw [yq 79 (by decide) (by decide), hZq 79 (by omega), ks_ne _ (by decide), e1 79 (by omega)]
  · rw [y77, if_pos ⟨i0, i1⟩]
/-- an order was not possible -/
theorem rd_no {e : Int} {P X Z R : Mem} (h : INV e P) (hX : ∀ q : Nat, q < 2 ∨ 7 < q → X q = stg P q) (hMZ : MR Z) (hZq : ∀ q : Nat, q ≤ 75 ∨ (78 ≤ q ∧ q ≤ 79) → Z q = cps X 1 (10 + 7 * (X 8 1).toNat) q) (h761 : Z 76 1 = P 76 1) (h764 : Z 76 4 = P 76 4) (hZ : ∀ i, 140 ≤ i → Z 77 i = mcp R 0 840 77 i) (hR : ∀ i, 0 ≤ i → i < 840 → R 77 i = P 77 i) : INV e (mcp Z 840 0) := by
  obtain ⟨a1, a2, a3, a4, a5, a6, a7⟩ := h
  have hpx := a4.1
  have p1 := hpx.1
  have e1 : ∀ p : Nat, p = 8 ∨ 52 ≤ p → X p = P p := fun p hp => by rw [hX p (by omega), stg_ne P (by omega) hpx]
  have e8 : X 8 = P 8 := e1 8 (by omega)
  rw [e8] at hZq
  have d : 10 + 7 * (P 8 1).toNat + 6 < 1 + 1 ∨ 1 + 6 < 10 + 7 * (P 8 1).toNat + 1 := by omega
  have d2 : 1 + 6 < 10 + 7 * (P 8 1).toNat + 1 ∨ 10 + 7 * (P 8 1).toNat + 6 < 1 + 1 := by omega
  have o1 : okm (stg P) (10 + 7 * (P 8 1).toNat) := cps_ok d a2
  have q1 : eqm (stg P) (10 + 7 * (P 8 1).toNat) (P 77) 0 := cps_eq d a2 a3 (fun _ _ _ => rfl)
  have hxb : ∀ j : Nat, 1 ≤ j → j ≤ 6 → X (10 + 7 * (P 8 1).toNat + j) = stg P (10 + 7 * (P 8 1).toNat + j) := fun j j1 j2 => hX _ (by omega)
  have o2 := o1.cg hxb
  have q2 := q1.cg o1 hxb (r' := P 77) (o' := 0) (fun _ _ _ => rfl)
  have y77 : ∀ i, mcp Z 840 0 77 i = if 0 ≤ i ∧ i < 140 then P 77 i else Z 77 i := fun i => by
    rw [mcp_at _ (Or.inl (by decide))]
    by_cases hi : 0 ≤ i ∧ i < 140
    · rw [if_pos hi, if_pos (by omega), hZ _ (by omega), mcp_at _ (Or.inr (by decide)), if_pos (by omega), hR _ (by omega) (by omega)]
      exact congrArg (P 77) (by omega)
    · rw [if_neg hi, if_neg (by omega)]
  have o3 : okm (cps X 1 (10 + 7 * (P 8 1).toNat)) 1 := cps_ok d2 o2
  have q3 : eqm (cps X 1 (10 + 7 * (P 8 1).toNat)) 1 (mcp Z 840 0 77) 0 := cps_eq d2 o2 q2 (fun i i0 i1 => by rw [y77, if_pos (by omega)])
  have yq : ∀ q : Nat, q ≠ 77 → mcp Z 840 0 q = Z q := fun q hq => mcp_ne _ _ _ hq
  have hMy : MR (mcp Z 840 0) := mcp_MR hMZ _ _
  generalize mcp Z 840 0 = Y at y77 q3 yq hMy ⊢
  have yc : ∀ q : Nat, q ≤ 75 ∨ (78 ≤ q ∧ q ≤ 79) → Y q = cps X 1 (10 + 7 * (P 8 1).toNat) q := fun q hq => by rw [yq q (by omega)]; exact hZq q hq
  have yx : ∀ q : Nat, (8 ≤ q ∧ q ≤ 75) ∨ (78 ≤ q ∧ q ≤ 79) → Y q = stg P q := fun q hq => by rw [yc q (by omega), cps_ne _ _ _ (by omega), hX q (by omega)]
  have yp : ∀ q : Nat, q = 8 ∨ (52 ≤ q ∧ q ≤ 75) ∨ (78 ≤ q ∧ q ≤ 79) → Y q = P q := fun q hq => by rw [yx q (by omega), stg_ne P (by omega) hpx]
  have hq1 : ∀ j : Nat, 1 ≤ j → j ≤ 6 → Y (1 + j) = cps X 1 (10 + 7 * (P 8 1).toNat) (1 + j) := fun j j1 j2 => yc _ (by omega)
  refine ⟨hMy, o3.cg hq1, q3.cg o3 hq1 (fun _ _ _ => rfl), hst_stay a4 (yp 8 (by omega)) (by rw [yq 76 (by decide)]; exact h761) (fun q r1 r2 r3 => by rw [yx q (by omega)]; exact cps_ne P _ _ (by omega)) (fun i i0 i1 => ?_), ?_, ?_, ?_⟩
  · rw [y77, if_neg (by omega), hZ _ i0, mcp_lo _ _ _ (by omega), hR _ (by omega) i1]
  · rw [yp 52 (by omega), yp 53 (by omega), yp 79 (by omega), yq 76 (by decide), h764]; exact a5
  · unfold TRL; rw [yp 68 (by omega)]; exact a6
  · rw [yp 75 (by omega), yp 78 (by omega)]; exact a7
theorem st_reads {G : GG} {e : Int} {m : Mem} (h : INV e m) (he : e < 512) : CM G 20 mX11_reads [.ref (G.2.2.2 0)] m (fun r m1 => CM G 20 mX12_reads [.ref (G.2.2.2 76)] m1 (RES e r)) := by
  have ht := h.2.2.2.2.1
  have hP := h.pr_
  obtain ⟨p1, p2, p3, p4⟩ := prs_I h.1 ht.1
  have pn : ∀ q : Nat, q ≠ 52 → q ≠ 54 → q ≠ 55 → q ≠ 56 → (prs m).2 q = m q := fun q a b c d => prs_ne m a b c d
  -- a memory with the reference's rows as they are in m
  have par : ∀ z : Mem, z 76 = m 76 → z 79 = m 79 → ((rdA z).1 = 0 → (prs m).1 = (rdA z).2 76 8 ∧ 0 ≤ (prs m).1) ∧ (¬ (rdA z).1 = 0 → (prs m).1 = -1 ∧ (prs m).2 52 6 = (rdA z).2 76 9 ∧ OE (prs m).2 (rdA z).2 ((rdA z).2 76 9)) := fun z z6 z9 => q_parse (by rw [z6, ht.2.1]) (fun i i0 i1 => by rw [z9]; exact (ht.2.2 i i0 i1).symm)
  have hxm : xrm m = if (prs m).1 = -1 then xrs (prs m).2 else (-10 - (prs m).1, (prs m).2) := rfl
  refine CM.up (s_X11_reads h.gi (fun hp => ?_) ?_) (by decide)
  · generalize prs m = p at hP p1 p2 p3 p4 pn par hxm hp ⊢
    have q := par p.2 (pn 76 (by decide) (by decide) (by decide) (by decide)) (pn 79 (by decide) (by decide) (by decide) (by decide))
    have hne : ¬ (rdA p.2).1 = 0 := fun q0 => by have := (q.1 q0).2; omega
    obtain ⟨-, q2, q3⟩ := q.2 hne
    obtain ⟨r1, r2, r3⟩ := rdA_go hP.1 (by rw [hP.2.2.2.2.1.2.1]; exact hP.2.2.2.2.1.1)
    rw [← q2] at q3
    exact (rd_both hP r1 (fun i _ => by rw [r2 77 (by omega)]) rfl p2 q3).1
  · rw [hxm]
    generalize prs m = p at hP p1 p2 p3 p4 pn par hxm ⊢
    have hpx := hP.2.2.2.1.1
    have pr : ∀ q : Nat, 76 ≤ q → p.2 q = m q := fun q hq => pn q (by omega) (by omega) (by omega) (by omega)
    have hlen : 0 ≤ m 76 4 ∧ m 76 4 ≤ 120 := by rw [ht.2.1]; exact ht.1
    by_cases hp : p.1 = -1
    · rw [if_pos hp]
      have hxs : xrs p.2 = xrz (p.2 52 6) (xrl (p.2 52 6).toNat 0 (stg p.2)) := rfl
      rw [hxs]
      -- what holds for every memory with the reference's rows of m
      have fact : ∀ m1 : Mem, MR m1 → (∀ q : Nat, 76 ≤ q → m1 q = m q) → ¬ (rdA m1).1 = 0 ∧ rdm m1 = rdz (p.2 52 6) (rdl (p.2 52 6).toNat 0 (mcp (rdA m1).2 0 840)) ∧ dgd ((rdA m1).2 76 9).toNat 0 (mcp (rdA m1).2 0 840) ∧ dgd (p.2 52 6).toNat 0 (mcp (rdA m1).2 0 840) ∧ (xrl (p.2 52 6).toNat 0 (stg p.2)).1 = (rdl (p.2 52 6).toNat 0 (mcp (rdA m1).2 0 840)).1 ∧ MR (xrl (p.2 52 6).toNat 0 (stg p.2)).2 ∧ MR (rdl (p.2 52 6).toNat 0 (mcp (rdA m1).2 0 840)).2 ∧ ((xrl (p.2 52 6).toNat 0 (stg p.2)).1 = -1 → SE (xrl (p.2 52 6).toNat 0 (stg p.2)).2 (rdl (p.2 52 6).toNat 0 (mcp (rdA m1).2 0 840)).2) := fun m1 hM1 hm1 => by
        have q := par m1 (hm1 76 (by decide)) (hm1 79 (by decide))
        have hne : ¬ (rdA m1).1 = 0 := fun q0 => by have := (q.1 q0).2; omega
        obtain ⟨-, q2, q3⟩ := q.2 hne
        obtain ⟨r1, r2, r3⟩ := rdA_go hM1 (by rw [hm1 76 (by decide)]; exact hlen)
        have e1 : rdm m1 = rds_ (rdA m1).2 := if_neg hne
        have e2 : rds_ (rdA m1).2 = rdz ((rdA m1).2 76 9) (rdl ((rdA m1).2 76 9).toNat 0 (mcp (rdA m1).2 0 840)) := rfl
        rw [← q2] at q3 e2
        obtain ⟨c1, c2, c3, c4, c5, c6⟩ := rd_both hP r1 (fun i _ => by rw [r2 77 (by omega), hm1 77 (by decide), pr 77 (by decide)]) rfl p2 q3
        exact ⟨hne, e1.trans e2, by rw [← q2]; exact c2, c2, c3, c4, c5, c6⟩
      have hXq : ∀ q : Nat, q < 2 ∨ 7 < q → (xrl (p.2 52 6).toNat 0 (stg p.2)).2 q = stg p.2 q := fun q hq => xrl_ne hq _ _ _
      have hXm : ∀ q : Nat, 76 ≤ q → (xrl (p.2 52 6).toNat 0 (stg p.2)).2 q = m q := fun q hq => by rw [hXq q (by omega), stg_ne p.2 (by omega) hpx, pr q hq]
      have hX8 : (xrl (p.2 52 6).toNat 0 (stg p.2)).2 8 = p.2 8 := by rw [hXq 8 (by omega), stg_ne p.2 (by omega) hpx]
      have hMX : MR (xrl (p.2 52 6).toNat 0 (stg p.2)).2 := (fact m h.1 (fun _ _ => rfl)).2.2.2.2.2.1
      generalize xrl (p.2 52 6).toNat 0 (stg p.2) = r at fact hXq hXm hX8 hMX ⊢
      -- the rest of a row behind the reference's loop
      have rows : ∀ m1 : Mem, MR m1 → (∀ q : Nat, 76 ≤ q → m1 q = m q) → dgd (p.2 52 6).toNat 0 (mcp (rdA m1).2 0 840) → (∀ q : Nat, q ≤ 75 ∨ (78 ≤ q ∧ q ≤ 79) → (rdl (p.2 52 6).toNat 0 (mcp (rdA m1).2 0 840)).2 q = m1 q) ∧ (∀ j, j ≠ 8 → j ≠ 9 → (rdl (p.2 52 6).toNat 0 (mcp (rdA m1).2 0 840)).2 76 j = p.2 76 j) ∧ (∀ i, 140 ≤ i → (rdl (p.2 52 6).toNat 0 (mcp (rdA m1).2 0 840)).2 77 i = mcp (rdA m1).2 0 840 77 i) ∧ ∀ i, 0 ≤ i → i < 840 → (rdA m1).2 77 i = p.2 77 i := fun m1 hM1 hm1 hd => by
        obtain ⟨r1, r2, r3⟩ := rdA_go hM1 (by rw [hm1 76 (by decide)]; exact hlen)
        refine ⟨fun q hq => ?_, fun j j8 j9 => ?_, fun i hi => rdl_hi hi _ _ _ hd, fun i _ _ => by rw [r2 77 (by omega), hm1 77 (by decide), pr 77 (by decide)]⟩
        · rw [rdl_ne (by omega), mcp_ne _ _ _ (by omega), r2 q (by omega)]
        · rw [rdl_ne (by decide), mcp_ne _ _ _ (by decide), r3 j j8 j9, hm1 76 (by decide), pr 76 (by decide)]
      by_cases hk : r.1 = -1
      · have ez : xrz (p.2 52 6) r = (p.2 52 6, ks r.2) := if_pos hk
        rw [ez]
        have hM1 : MR (ks r.2) := ks_MR hMX (px_of hX8 hpx)
        have hm1 : ∀ q : Nat, 76 ≤ q → ks r.2 q = m q := fun q hq => by rw [ks_ne _ (by omega), hXm q hq]
        have hg : GM (ks r.2) := h.gm.cg hM1 (hm1 76 (by decide)) (hm1 77 (by decide)) (hm1 78 (by decide))
        obtain ⟨f1, f2, f3, f4, f5, f6, f7, f8⟩ := fact (ks r.2) hM1 hm1
        obtain ⟨w1, w2, w3, w4⟩ := rows (ks r.2) hM1 hm1 f4
        refine CM.up (s_X12_reads hg (fun _ => f3) ?_) (by decide)
        rw [f2]
        generalize rdl (p.2 52 6).toNat 0 (mcp (rdA (ks r.2)).2 0 840) = Z at f5 f7 f8 w1 w2 w3 ⊢
        have ez2 : rdz (p.2 52 6) Z = (p.2 52 6, rde Z.2) := if_pos (by rw [← f5]; exact hk)
        rw [ez2]
        exact ⟨rfl, ⟨_, rfl⟩, (rd_yes hP hXq f7 w1 (w2 1 (by decide) (by decide)) (w2 4 (by decide) (by decide)) w3 w4 (f8 hk)).up he⟩
      · have ez : xrz (p.2 52 6) r = (-1000 - r.1, cps r.2 1 (10 + 7 * (r.2 8 1).toNat)) := if_neg hk
        rw [ez]
        have hM1 : MR (cps r.2 1 (10 + 7 * (r.2 8 1).toNat)) := cps_MR hMX _ _
        have hm1 : ∀ q : Nat, 76 ≤ q → cps r.2 1 (10 + 7 * (r.2 8 1).toNat) q = m q := fun q hq => by rw [cps_ne _ _ _ (by omega), hXm q hq]
        have hg : GM (cps r.2 1 (10 + 7 * (r.2 8 1).toNat)) := h.gm.cg hM1 (hm1 76 (by decide)) (hm1 77 (by decide)) (hm1 78 (by decide))
        obtain ⟨f1, f2, f3, f4, f5, f6, f7, f8⟩ := fact _ hM1 hm1
        obtain ⟨w1, w2, w3, w4⟩ := rows _ hM1 hm1 f4
        refine CM.up (s_X12_reads hg (fun _ => f3) ?_) (by decide)
        rw [f2]
        generalize rdl (p.2 52 6).toNat 0 (mcp (rdA (cps r.2 1 (10 + 7 * (r.2 8 1).toNat))).2 0 840) = Z at f5 f7 f8 w1 w2 w3 ⊢
        have ez2 : rdz (p.2 52 6) Z = (-1000 - Z.1, mcp Z.2 840 0) := if_neg (by rw [← f5]; exact hk)
        rw [ez2, f5]
        exact ⟨rfl, ⟨_, rfl⟩, (rd_no hP hXq f7 w1 (w2 1 (by decide) (by decide)) (w2 4 (by decide) (by decide)) w3 w4).up he⟩
    · rw [if_neg hp]
      have q := par p.2 (pr 76 (by decide)) (pr 79 (by decide))
      have hz : (rdA p.2).1 = 0 := Classical.byContradiction (fun q0 => hp (q.2 q0).1)
      obtain ⟨q1, q2⟩ := q.1 hz
      refine CM.up (s_X12_reads hP.gm (fun q0 => absurd hz q0) ?_) (by decide)
      have e1 : rdm p.2 = (-10 - (rdA p.2).2 76 8, (rdA p.2).2) := if_pos hz
      rw [e1, q1]
      exact ⟨rfl, ⟨_, rfl⟩, hP.ra_.up he⟩
