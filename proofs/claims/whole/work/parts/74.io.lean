/-! ===== orders are done alike ===== -/
theorem adx_MR {x : Mem} (hM : MR x) (hn : CN x) {a b c d e : Int} (ha : rg a) (hb : rg b) (hc : rg c) (hd : rg d) (he : rg e) : MR (adx x a b c d e) := by
  unfold adx
  split
  · refine MR.ap ((hM.ask ha hb hc hd).st he) ?_
    have h5 := ask5 x a b c d e
    unfold CN
    rw [h5.1 2 (by decide)]
    exact hn
  · exact hM
theorem awx_MR {x : Mem} (hM : MR x) (hs : SN x) {a b c : Int} (ha : rg a) (hb : rg b) (hc : rg c) : MR (awx x a b c) := by
  have h1 := hs.1; have h2 := hs.2
  unfold awx
  split
  · unfold apw putm
    exact (((hM.st ha).st hb).st hc).st (by omega)
  · exact hM
theorem wtx_MR {x : Mem} (hM : MR x) {a b : Int} (hb : rg b) : MR (wtx x a b) := by
  unfold wtx
  split
  · exact hM.st hb
  · exact hM
theorem lax_MR {x : Mem} (hM : MR x) (o : Int) : MR (lax x o) := by
  unfold lax
  split
  · unfold lam
    exact MR_it (fun i y hy => hy.st (nmb_rg hy o i)) _ _ _ hM
  · exact hM
theorem dpx_MR {x : Mem} (hM : MR x) (hn : CN x) (hs : SN x) (h0 : ∀ i, 0 ≤ i → i < x 5 1 → 0 ≤ x 6 (i * 3)) (a : Int) : MR (dpx x a) := by
  have n1 := hn.1; have n2 := hn.2
  unfold dpx
  split
  · have h1 := rnm_MR hM a h0 hs
    have e2 : rnm x a 2 = x 2 := rnm_2 x a
    unfold rmm
    exact h1.cp.st (by rw [e2]; omega)
  · exact hM
theorem gos_MR {z : Mem} (hM : MR z) (hn : NM z) (hw : ∀ i, 0 ≤ i → i < z 77 1 → 0 ≤ z 77 (82 + 3 * i)) {k : Int} (hk : 0 ≤ k ∧ k < z 77 0) : MR (gos z k) := by
  have h1 := gos1_I hM hn hk
  have h2 := it_Ij (f := fun i x => gos2 k i x) (fun j x => GO2 z j x) (z 77 1).toNat 0 (gos1 z k) (fun i y a b hy => gos2_I hw ⟨a, by omega⟩ hy) ⟨h1.1, h1.2.1, h1.2.2.1, fun i a b => h1.2.2.2 _ (by omega)⟩
  exact h2.1
theorem adm_MR {z : Mem} (hM : MR z) (hn : NM z) {a b c d e : Int} (ha : rg a) (hb : rg b) (hc : rg c) (hd : rg d) (he : rg e) : MR (adm z a b c d e) := by
  have h1 := hn.1; have h2 := hn.2
  unfold adm
  exact (((((hM.st ha).st hb).st hc).st hd).st he).st (by omega)
theorem sym_MR {z : Mem} (hM : MR z) (hc : CMd z) {a b c : Int} (ha : rg a) (hb : rg b) (hcc : rg c) : MR (sym z a b c) := by
  have h1 := hc.1; have h2 := hc.2
  unfold sym
  exact (((hM.st ha).st hb).st hcc).st (by omega)
theorem lax__MR {z : Mem} (hM : MR z) (a : Int) : MR (lax_ z a) := by
  unfold lax_
  split
  · unfold lcm_
    exact MR_it (fun i y hy => hy.st (hy _ _)) _ _ _ hM
  · exact hM
theorem SE.w0 {x z : Mem} (h : SE x z) : CN x ∧ SN x ∧ NM z ∧ CMd z ∧ (∀ i, 0 ≤ i → i < x 5 1 → 0 ≤ x 6 (i * 3)) ∧ (∀ i, 0 ≤ i → i < z 77 1 → 0 ≤ z 77 (82 + 3 * i)) := by
  obtain ⟨⟨o1, o2, o3, o4, o5, o6, o7⟩, e0, e1, e2, e3, e4, e5⟩ := h
  have w : ∀ i, 0 ≤ i → i < x 5 1 → 0 ≤ x 6 (i * 3) := fun i a b => by
    have := (o6 i a b).1.1
    rw [Int.add_zero] at this
    exact this
  refine ⟨o1, o2, by unfold NM; rw [← e0]; exact o1, by unfold CMd; rw [← e1]; exact o2, w, fun i a b => ?_⟩
  rw [← e1] at b
  have := e3 i 0 a b (by omega) (by omega)
  rw [Int.add_zero, Int.add_zero] at this
  rw [← this]
  exact w i a b
theorem xcx_MR {x : Mem} (hM : MR x) (hn : CN x) (hs : SN x) (h0 : ∀ i, 0 ≤ i → i < x 5 1 → 0 ≤ x 6 (i * 3)) (k : Int) : MR (xcx x k) := by
  have hr := fun j => nmb_rg hM k j
  unfold xcx
  split
  · exact adx_MR hM hn (hr _) (hr _) (hr _) (hr _) (hr _)
  · split
    · split
      · exact awx_MR hM hs (hr _) (by decide) (hr _)
      · exact awx_MR hM hs (hr _) (hr _) (hr _)
    · split
      · exact wtx_MR hM (hr _)
      · split
        · exact lax_MR hM k
        · split
          · exact dpx_MR hM hn hs h0 _
          · split
            · exact hM.st (by decide)
            · exact hM
theorem dox_MR {z : Mem} (hM : MR z) (hn : NM z) (hc : CMd z) (h0 : ∀ i, 0 ≤ i → i < z 77 1 → 0 ≤ z 77 (82 + 3 * i)) (k : Int) : MR (dox z k) := by
  unfold dox
  split
  · split
    · exact adm_MR hM hn (hM _ _) (hM _ _) (hM _ _) (hM _ _) (hM _ _)
    · exact hM
  · split
    · split
      · refine sym_MR hM hc (hM _ _) ?_ ?_
        · unfold dtf; split
          · exact hM _ _
          · decide
        · unfold dtt; split
          · exact hM _ _
          · split
            · exact hM _ _
            · decide
      · exact hM
    · split
      · split
        · exact hM.st (hM _ _)
        · exact hM
      · split
        · exact lax__MR hM _
        · split
          · split
            · next hd => exact gos_MR hM hn h0 (cnd_0 hd)
            · exact hM
          · exact hM.st (by decide)
theorem lst_in {c : Int} (h : ¬ lst c = -1) : (c = 99 ∧ lst c = 0 ∧ mo c = 0) ∨ (c = 100 ∧ lst c = 1 ∧ mo c = 1) ∨ (c = 103 ∧ lst c = 2 ∧ mo c = 2) ∨ (c = 108 ∧ lst c = 6 ∧ mo c = 6) ∨ (c = 115 ∧ lst c = 5 ∧ mo c = 5) ∨ (c = 119 ∧ lst c = 1 ∧ mo c = 3) := by
  unfold lst mo at *
  (repeat' split at h) <;> (repeat' split) <;> omega
theorem ex_1 {x z : Mem} {k : Int} (h : SE x z) (ho : OR1 x z k) : (xcr x k < 0 ↔ dor z k = 0) ∧ (¬ dor z k = 0 → SE (xcx x k) (dox z k)) := by
  obtain ⟨q1, q2, q3, q4, q5, q6⟩ := ho
  have hnm : ∀ j, 0 ≤ j → j < x 55 k → nmb x k j = z 84 (6 * k + j) := fun j j0 j1 => by
    unfold nmb
    rw [if_pos j1]
    exact q6 j j0 j1
  have hno : ∀ j, ¬ j < x 55 k → nmb x k j = -1 := fun j j1 => if_neg j1
  rcases lst_in q5 with ⟨l, l1, l2⟩ | ⟨l, l1, l2⟩ | ⟨l, l1, l2⟩ | ⟨l, l1, l2⟩ | ⟨l, l1, l2⟩ | ⟨l, l1, l2⟩ <;> rw [l1, l2] at q4 <;> (have lz : z 82 k = x 54 k := q1.symm) <;> rw [l] at lz
  · have e1 : xcr x k = x 5 1 := by unfold xcr; rw [l]; rfl
    have e2 : xcx x k = stm x 5 1 0 := by unfold xcx; rw [l]; rfl
    have e3 : dor z k = 1 := by unfold dor; rw [lz]; rfl
    have e4 : dox z k = stm z 77 1 0 := by unfold dox; rw [lz]; rfl
    have o2 := h.1.2.1
    rw [e1, e2, e3, e4]
    exact ⟨⟨fun q => by omega, fun q => absurd q (by decide)⟩, fun _ => h.clears⟩
  · have n0 := hnm 0 (by omega) (by omega)
    rw [Int.add_zero] at n0
    have e1 : xcr x k = dpr x (nmb x k 0) := by unfold xcr; rw [l]; rfl
    have e2 : xcx x k = dpx x (nmb x k 0) := by unfold xcx; rw [l]; rfl
    have e3 : dor z k = if cnd z (z 84 (6 * k)) = 0 then 1 else 0 := by unfold dor; rw [lz]; rfl
    have e4 : dox z k = if cnd z (z 84 (6 * k)) = 0 then gos z (z 84 (6 * k)) else z := by unfold dox; rw [lz]; rfl
    rw [e1, e2, e3, e4, n0]
    obtain ⟨d1, d2, d3⟩ := h.drops (z 84 (6 * k))
    have hr := cnd_rg z (z 84 (6 * k))
    by_cases hc : cnd z (z 84 (6 * k)) = 0
    · rw [if_pos hc, if_pos hc]
      have := d2 hc
      exact ⟨⟨fun q => by omega, fun q => absurd q (by decide)⟩, fun _ => this.2⟩
    · rw [if_neg hc, d1, if_pos (by omega)]
      exact ⟨⟨fun _ => rfl, fun _ => by omega⟩, fun q => absurd rfl q⟩
  · have n0 := hnm 0 (by omega) (by omega)
    rw [Int.add_zero] at n0
    have n1 := hnm 1 (by omega) (by omega)
    have e1 : xcr x k = wtr x (nmb x k 0) (nmb x k 1) := by unfold xcr; rw [l]; rfl
    have e2 : xcx x k = wtx x (nmb x k 0) (nmb x k 1) := by unfold xcx; rw [l]; rfl
    have e3 : dor z k = if (0 ≤ z 84 (6 * k) ∧ z 84 (6 * k) ≤ 3) ∧ (0 ≤ z 84 (6 * k + 1) ∧ z 84 (6 * k + 1) ≤ 5) then 1 else 0 := by unfold dor; rw [lz]; rfl
    have e4 : dox z k = if (0 ≤ z 84 (6 * k) ∧ z 84 (6 * k) ≤ 3) ∧ (0 ≤ z 84 (6 * k + 1) ∧ z 84 (6 * k + 1) ≤ 5) then stm z 77 (130 + z 84 (6 * k)) (z 84 (6 * k + 1)) else z := by unfold dox; rw [lz]; rfl
    rw [e1, e2, e3, e4, n0, n1]
    by_cases hc : (0 ≤ z 84 (6 * k) ∧ z 84 (6 * k) ≤ 3) ∧ (0 ≤ z 84 (6 * k + 1) ∧ z 84 (6 * k + 1) ≤ 5)
    · rw [if_pos hc, if_pos hc]
      obtain ⟨w1, w2, w3⟩ := h.weight hc
      exact ⟨⟨fun q => by omega, fun q => absurd q (by decide)⟩, fun _ => w3⟩
    · have w1 : wtr x (z 84 (6 * k)) (z 84 (6 * k + 1)) = -2 := if_neg hc
      rw [if_neg hc, w1]
      exact ⟨⟨fun _ => rfl, fun _ => by decide⟩, fun q => absurd rfl q⟩
  · have e1 : xcr x k = lac x k 6 0 0 := by unfold xcr; rw [l]; rfl
    have e2 : xcx x k = lax x k := by unfold xcx; rw [l]; rfl
    have e3 : dor z k = lar z (6 * k) := by unfold dor; rw [lz]; rfl
    have e4 : dox z k = lax_ z (6 * k) := by unfold dox; rw [lz]; rfl
    obtain ⟨y1, y2⟩ := h.layAll (o := k) (fun s s0 s1 => hnm s s0 (by omega))
    rw [e1, e2, e3, e4]
    by_cases hc : las z (6 * k) = 63
    · have e5 : lar z (6 * k) = 1 := if_pos hc
      obtain ⟨y3, y4⟩ := y1 hc
      rw [e5, y3]
      exact ⟨⟨fun q => by omega, fun q => absurd q (by decide)⟩, fun _ => y4⟩
    · have e5 : lar z (6 * k) = 0 := if_neg hc
      obtain ⟨y3, y4⟩ := y2 hc
      rw [e5, y3]
      exact ⟨⟨fun _ => rfl, fun _ => by decide⟩, fun q => absurd rfl q⟩
  · have n0 := hnm 0 (by omega) (by omega)
    rw [Int.add_zero] at n0
    have n1 := hnm 1 (by omega) (by omega)
    have n2 := hnm 2 (by omega) (by omega)
    have n3 := hnm 3 (by omega) (by omega)
    have n4 := hnm 4 (by omega) (by omega)
    have e1 : xcr x k = adr x (nmb x k 0) (nmb x k 1) (nmb x k 2) (nmb x k 3) (nmb x k 4) := by unfold xcr; rw [l]; rfl
    have e2 : xcx x k = adx x (nmb x k 0) (nmb x k 1) (nmb x k 2) (nmb x k 3) (nmb x k 4) := by unfold xcx; rw [l]; rfl
    have e3 : dor z k = if dsc z k = 0 then 1 else 0 := by unfold dor; rw [lz]; rfl
    have e4 : dox z k = if dsc z k = 0 then adm z (z 84 (6 * k)) (z 84 (6 * k + 1)) (z 84 (6 * k + 2)) (z 84 (6 * k + 3)) (z 84 (6 * k + 4)) else z := by unfold dox; rw [lz]; rfl
    rw [e1, e2, e3, e4, n0, n1, n2, n3, n4]
    obtain ⟨d1, d2, d3⟩ := h.sign (z 84 (6 * k)) (z 84 (6 * k + 1)) (z 84 (6 * k + 2)) (z 84 (6 * k + 3)) (z 84 (6 * k + 4))
    have hr := cns_rg z (z 84 (6 * k)) (z 84 (6 * k + 1)) (z 84 (6 * k + 2)) (z 84 (6 * k + 3)) (z 84 (6 * k + 4))
    have o1 := h.1.1
    have e0 := h.2.1
    by_cases hc : dsc z k = 0
    · have hc2 : cns z (z 84 (6 * k)) (z 84 (6 * k + 1)) (z 84 (6 * k + 2)) (z 84 (6 * k + 3)) (z 84 (6 * k + 4)) = 0 := hc
      rw [if_pos hc, if_pos hc, d1, if_neg (by omega)]
      exact ⟨⟨fun q => by omega, fun q => absurd q (by decide)⟩, fun _ => d2 hc2⟩
    · have hc2 : ¬ cns z (z 84 (6 * k)) (z 84 (6 * k + 1)) (z 84 (6 * k + 2)) (z 84 (6 * k + 3)) (z 84 (6 * k + 4)) = 0 := hc
      rw [if_neg hc, d1, if_pos (by omega)]
      exact ⟨⟨fun _ => rfl, fun _ => by omega⟩, fun q => absurd rfl q⟩
  · have n0 := hnm 0 (by omega) (by omega)
    rw [Int.add_zero] at n0
    have o2 := h.1.2.1
    have e1z := h.2.2.1
    have e1 : xcr x k = if x 55 k = 2 then awr x (nmb x k 0) (-1) (nmb x k 1) else awr x (nmb x k 0) (nmb x k 1) (nmb x k 2) := by unfold xcr; rw [l]; rfl
    have e2 : xcx x k = if x 55 k = 2 then awx x (nmb x k 0) (-1) (nmb x k 1) else awx x (nmb x k 0) (nmb x k 1) (nmb x k 2) := by unfold xcx; rw [l]; rfl
    have e3 : dor z k = if dwc z k = 0 then 1 else 0 := by unfold dor; rw [lz]; rfl
    have e4 : dox z k = if dwc z k = 0 then sym z (z 84 (6 * k)) (dtf z k) (dtt z k) else z := by unfold dox; rw [lz]; rfl
    have e5 : xcr x k = awr x (z 84 (6 * k)) (dtf z k) (dtt z k) ∧ xcx x k = awx x (z 84 (6 * k)) (dtf z k) (dtt z k) := by
      unfold dtf dtt
      rw [e1, e2, n0, ← q2]
      rcases (by omega : x 55 k = 1 ∨ x 55 k = 2 ∨ x 55 k = 3) with hc | hc | hc
      · rw [hno 1 (by omega), hno 2 (by omega), hc]; exact ⟨rfl, rfl⟩
      · rw [hnm 1 (by omega) (by omega), hc]; exact ⟨rfl, rfl⟩
      · rw [hnm 1 (by omega) (by omega), hnm 2 (by omega) (by omega), hc]; exact ⟨rfl, rfl⟩
    rw [e5.1, e5.2, e3, e4]
    obtain ⟨d1, d2, d3⟩ := h.word (z 84 (6 * k)) (dtf z k) (dtt z k)
    have hr := csy_rg z (z 84 (6 * k)) (dtf z k) (dtt z k)
    by_cases hc : dwc z k = 0
    · have hc2 : csy z (z 84 (6 * k)) (dtf z k) (dtt z k) = 0 := hc
      rw [if_pos hc, if_pos hc, d1, if_neg (by omega)]
      exact ⟨⟨fun q => by omega, fun q => absurd q (by decide)⟩, fun _ => d2 hc2⟩
    · have hc2 : ¬ csy z (z 84 (6 * k)) (dtf z k) (dtt z k) = 0 := hc
      rw [if_neg hc, d1, if_pos (by omega)]
      exact ⟨⟨fun _ => rfl, fun _ => by omega⟩, fun q => absurd rfl q⟩
theorem ex_rel {n : Int} (hn : n ≤ 60) : ∀ (c : Nat) (k : Int) (x z : Mem), k + c = n → 0 ≤ k → SE x z → MR x → MR z → OE x z n → x 52 6 = n → xgd c k x ∧ dgd c k z ∧ (xrl c k x).1 = (rdl c k z).1 ∧ (∀ q : Nat, q < 2 ∨ 7 < q → (xrl c k x).2 q = x q) ∧ MR (xrl c k x).2 ∧ MR (rdl c k z).2 ∧ ((xrl c k x).1 = -1 → SE (xrl c k x).2 (rdl c k z).2)
  | 0, k, x, z, hk, k0, h, hM, hz, ho, h6 => ⟨trivial, trivial, rfl, fun _ _ => rfl, hM, hz, fun _ => h⟩
  | c + 1, k, x, z, hk, k0, h, hM, hz, ho, h6 => by
    obtain ⟨a1, a2, a3, a4, a5, a6⟩ := h.w0
    have hok := ho k k0 (by omega)
    obtain ⟨x1, x2⟩ := ex_1 h hok
    have hxg : XG x k := ⟨hM, a1, a2, a5, by rw [h6]; omega, ⟨k0, by rw [h6]; omega⟩, hok.2.2.1⟩
    have hdg : DG z k := ⟨hz, a3, a4, a6, k0, by omega⟩
    have m1 := xcx_MR hM a1 a2 a5 k
    have m2 := dox_MR hz a3 a4 a6 k
    by_cases hd : dor z k = 0
    · have hx := x1.mpr hd
      have e1 : xrl (c + 1) k x = (k, xcx x k) := by unfold xrl; rw [if_pos hx]
      have e2 : rdl (c + 1) k z = (k, z) := by unfold rdl; rw [if_pos hd]
      rw [e1, e2]
      exact ⟨⟨hxg, fun q => by omega⟩, ⟨hdg, fun q => absurd hd q⟩, rfl, fun q hq => xcx_ne x k hq, m1, hz, fun q => by have : k = -1 := q; omega⟩
    · have hx : ¬ xcr x k < 0 := fun q => hd (x1.mp q)
      have e1 : xrl (c + 1) k x = xrl c (k + 1) (xcx x k) := by
        show (if xcr x k < 0 then (k, xcx x k) else xrl c (k + 1) (xcx x k)) = _
        rw [if_neg hx]
      have e2 : rdl (c + 1) k z = rdl c (k + 1) (dox z k) := by
        show (if dor z k = 0 then (k, z) else rdl c (k + 1) (dox z k)) = _
        rw [if_neg hd]
      have ih := ex_rel hn c (k + 1) (xcx x k) (dox z k) (by omega) (by omega) (x2 hd) m1 m2 (ho.cg (fun o _ => by rw [xcx_ne _ _ (by decide)]) (fun o _ => by rw [xcx_ne _ _ (by decide)]) (fun o _ => by rw [xcx_ne _ _ (by decide)]) (fun o _ => by rw [dox_ne _ _ (by decide)]) (fun o _ => by rw [dox_ne _ _ (by decide)]) (fun o _ => by rw [dox_ne _ _ (by decide)])) (by rw [xcx_ne _ _ (by decide)]; exact h6)
      rw [e1, e2]
      obtain ⟨b1, b2, b3, b4, b5, b6, b7⟩ := ih
      exact ⟨⟨hxg, fun _ => b1⟩, ⟨hdg, fun _ => b2⟩, b3, fun q hq => (b4 q hq).trans (xcx_ne x k hq), b5, b6, b7⟩
