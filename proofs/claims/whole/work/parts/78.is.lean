/-! ===== type, clear, back ===== -/
theorem INV.cg3 {e : Int} {m m' : Mem} (h : INV e m) (hM : MR m') (ho : okm m' 1) (hq : eqm m' 1 (m' 77) 0) (hh : hst m') (ht5 : (0 ≤ m' 52 1 ∧ m' 52 1 ≤ 120) ∧ m' 76 4 = m' 52 1 ∧ ∀ i, 0 ≤ i → i < m' 52 1 → m' 79 i = m' 53 i) (ht : TRL m') (h75 : m' 75 = m 75) (h78 : m' 78 = m 78) : INV e m' :=
  ⟨hM, ho, hq, hh, ht5, ht, by rw [h75, h78]; exact h.2.2.2.2.2.2⟩
theorem INV.txt {e : Int} {m m' : Mem} (h : INV e m) (hM : MR m') (hq : ∀ q : Nat, q ≤ 51 ∨ q = 68 ∨ q = 75 ∨ q = 77 ∨ q = 78 → m' q = m q) (h761 : m' 76 1 = m 76 1) (ht5 : (0 ≤ m' 52 1 ∧ m' 52 1 ≤ 120) ∧ m' 76 4 = m' 52 1 ∧ ∀ i, 0 ≤ i → i < m' 52 1 → m' 79 i = m' 53 i) : INV e m' := by
  obtain ⟨a1, a2, a3, a4, a5, a6, a7⟩ := h
  have hq1 : ∀ j : Nat, 1 ≤ j → j ≤ 6 → m' (1 + j) = m (1 + j) := fun j j1 j2 => hq _ (by omega)
  refine ⟨hM, a2.cg hq1, a3.cg a2 hq1 (fun i _ _ => by rw [hq 77 (by omega)]), hst_stay a4 (hq 8 (by omega)) h761 (fun q _ _ _ => hq q (by omega)) (fun i _ _ => by rw [hq 77 (by omega)]), ht5, ?_, ?_⟩
  · unfold TRL; rw [hq 68 (by omega)]; exact a6
  · rw [hq 75 (by omega), hq 78 (by omega)]; exact a7
theorem st_clear {G : GG} {e : Int} {m : Mem} (h : INV e m) (he : e < 512) : CM G 20 mX11_clear [.ref (G.2.2.2 0)] m (fun r m1 => CM G 20 mX12_clear [.ref (G.2.2.2 76)] m1 (RES e r)) := by
  refine CM.up (s_X11_clear ?_) (by decide)
  refine CM.up (s_X12_clear ?_) (by decide)
  have ht := h.2.2.2.2.1
  rw [stm_ne _ _ _ (show 76 ≠ 52 by decide), ht.2.1]
  refine ⟨rfl, ⟨_, rfl⟩, (h.txt ((h.1.st (by decide)).st (by decide)) (fun q hq => by rw [stm_ne _ _ _ (by omega), stm_ne _ _ _ (by omega)]) (by rw [stm_ix _ _ _ (by decide), stm_ne _ _ _ (by decide)]) ?_).up he⟩
  rw [stm_eq, stm_ne _ _ _ (show 52 ≠ 76 by decide), stm_eq]
  exact ⟨by decide, rfl, fun i i0 i1 => by omega⟩
theorem st_type {G : GG} {e : Int} {m : Mem} (h : INV e m) (he : e < 512) {a : Int} (ra : rg a) : CM G 20 mX11_type [.ref (G.2.2.2 0), .int (J a)] m (fun r m1 => CM G 20 mX12_type [.ref (G.2.2.2 76), .int (J a)] m1 (RES e r)) := by
  refine CM.up (s_X11_type h.gi ra ?_) (by decide)
  have ht := h.2.2.2.2.1
  by_cases hc : 0 ≤ a ∧ a ≤ 127
  · by_cases hl : m 52 1 < 120
    · have ev : (if 0 ≤ a ∧ a ≤ 127 then (if m 52 1 < 120 then m 52 1 + 1 else -4) else -2) = m 52 1 + 1 := by rw [if_pos hc, if_pos hl]
      have ex : (if (0 ≤ a ∧ a ≤ 127) ∧ m 52 1 < 120 then stm (stm m 53 (m 52 1) a) 52 1 (m 52 1 + 1) else m) = stm (stm m 53 (m 52 1) a) 52 1 (m 52 1 + 1) := if_pos ⟨hc, hl⟩
      rw [ev, ex, ctm_pos (by omega)]
      have hM1 : MR (stm (stm m 53 (m 52 1) a) 52 1 (m 52 1 + 1)) := (h.1.st ra).st (by omega)
      have r1 : ∀ q : Nat, q ≠ 52 → q ≠ 53 → stm (stm m 53 (m 52 1) a) 52 1 (m 52 1 + 1) q = m q := fun q q1 q2 => by rw [stm_ne _ _ _ q1, stm_ne _ _ _ q2]
      have hg : GM (stm (stm m 53 (m 52 1) a) 52 1 (m 52 1 + 1)) := h.gm.cg hM1 (r1 76 (by decide) (by decide)) (r1 77 (by decide) (by decide)) (r1 78 (by decide) (by decide))
      have x521 : stm (stm m 53 (m 52 1) a) 52 1 (m 52 1 + 1) 52 1 = m 52 1 + 1 := stm_eq _ _ _ _
      have x53 : ∀ i, stm (stm m 53 (m 52 1) a) 52 1 (m 52 1 + 1) 53 i = if i = m 52 1 then a else m 53 i := fun i => by rw [stm_ne _ _ _ (by decide), stm_at]
      generalize stm (stm m 53 (m 52 1) a) 52 1 (m 52 1 + 1) = X at hM1 r1 hg x521 x53 ⊢
      have e4 : X 76 4 = m 52 1 := by rw [r1 76 (by decide) (by decide), ht.2.1]
      refine CM.up (s_X12_type hg ra ?_) (by decide)
      have ev2 : (if 0 ≤ a ∧ a ≤ 127 then (if X 76 4 = 120 then -4 else X 76 4 + 1) else -2) = m 52 1 + 1 := by rw [if_pos hc, if_neg (by omega), e4]
      have ex2 : (if 0 ≤ a ∧ a ≤ 127 then (if X 76 4 = 120 then rfm X (-4) else stm (stm X 79 (X 76 4) a) 76 4 (X 76 4 + 1)) else rfm X (-2)) = stm (stm X 79 (m 52 1) a) 76 4 (m 52 1 + 1) := by rw [if_pos hc, if_neg (by omega), e4]
      rw [ev2, ex2]
      refine ⟨rfl, ⟨_, rfl⟩, (h.txt ((hM1.st ra).st (by omega)) (fun q hq => by rw [stm_ne _ _ _ (by omega), stm_ne _ _ _ (by omega)]; exact r1 q (by omega) (by omega)) (by rw [stm_ix _ _ _ (by decide), stm_ne _ _ _ (by decide), r1 76 (by decide) (by decide)]) ?_).up he⟩
      have y52 : stm (stm X 79 (m 52 1) a) 76 4 (m 52 1 + 1) 52 = X 52 := by rw [stm_ne _ _ _ (by decide), stm_ne _ _ _ (by decide)]
      have y53 : stm (stm X 79 (m 52 1) a) 76 4 (m 52 1 + 1) 53 = X 53 := by rw [stm_ne _ _ _ (by decide), stm_ne _ _ _ (by decide)]
      rw [y52, y53, x521, stm_eq]
      refine ⟨by omega, rfl, fun i i0 i1 => ?_⟩
      rw [x53, stm_ne _ _ _ (by decide), stm_at, r1 79 (by decide) (by decide)]
      by_cases hi : i = m 52 1
      · rw [if_pos hi, if_pos hi]
      · rw [if_neg hi, if_neg hi]; exact ht.2.2 i i0 (by omega)
    · have ev : (if 0 ≤ a ∧ a ≤ 127 then (if m 52 1 < 120 then m 52 1 + 1 else -4) else -2) = -4 := by rw [if_pos hc, if_neg hl]
      have ex : (if (0 ≤ a ∧ a ≤ 127) ∧ m 52 1 < 120 then stm (stm m 53 (m 52 1) a) 52 1 (m 52 1 + 1) else m) = m := if_neg (fun q => hl q.2)
      rw [ev, ex]
      obtain ⟨g1, g2⟩ := h.err he (r := -4) (by decide)
      have e4 : ctm m (-4) 76 4 = 120 := by rw [ctm_ne _ _ (by decide), ht.2.1]; omega
      refine CM.up (s_X12_type g1 ra ?_) (by decide)
      rw [e4, if_pos hc, if_pos hc]
      exact ⟨rfl, ⟨_, rfl⟩, g2⟩
  · have ev : (if 0 ≤ a ∧ a ≤ 127 then (if m 52 1 < 120 then m 52 1 + 1 else -4) else -2) = -2 := if_neg hc
    have ex : (if (0 ≤ a ∧ a ≤ 127) ∧ m 52 1 < 120 then stm (stm m 53 (m 52 1) a) 52 1 (m 52 1 + 1) else m) = m := if_neg (fun q => hc q.1)
    rw [ev, ex]
    obtain ⟨g1, g2⟩ := h.err he (r := -2) (by decide)
    refine CM.up (s_X12_type g1 ra ?_) (by decide)
    have ev2 : (if 0 ≤ a ∧ a ≤ 127 then (if ctm m (-2) 76 4 = 120 then -4 else ctm m (-2) 76 4 + 1) else -2) = -2 := if_neg hc
    rw [ev2, if_neg hc]
    exact ⟨rfl, ⟨_, rfl⟩, g2⟩
theorem st_back {G : GG} {e : Int} {m : Mem} (h : INV e m) (he : e < 512) : CM G 20 mX11_back [.ref (G.2.2.2 0)] m (fun r m1 => CM G 20 mX12_back [.ref (G.2.2.2 76)] m1 (RES e r)) := by
  refine CM.up (s_X11_back h.gi ?_) (by decide)
  obtain ⟨hp, h76, hsl⟩ := h.2.2.2.1
  have p1 := hp.1; have p2 := hp.2
  by_cases hc : m 8 2 = 0
  · rw [if_pos hc, if_pos hc]
    obtain ⟨g1, g2⟩ := h.err he (r := -3) (by decide)
    have e1 : ctm m (-3) 76 1 = 0 := by rw [ctm_ne _ _ (by decide), h76]; exact hc
    refine CM.up (s_X12_back g1 ?_) (by decide)
    rw [e1, if_pos rfl, if_pos rfl]
    exact ⟨rfl, ⟨_, rfl⟩, g2⟩
  · rw [if_neg hc, if_neg hc]
    have hb1 : ∀ q : Nat, q = 0 ∨ 8 < q → bkm m q = m q := fun q hq => bkm_ne m hq
    have hX : ∀ q : Nat, q ≠ 8 → stm (stm m 8 1 ((m 8 1 + 6 - 1) % 6)) 8 2 (m 8 2 - 1) q = m q := fun q hq => by rw [stm_ne _ _ _ hq, stm_ne _ _ _ hq]
    have hMX : MR (stm (stm m 8 1 ((m 8 1 + 6 - 1) % 6)) 8 2 (m 8 2 - 1)) := (h.1.st (by omega)).st (by omega)
    have hMb : MR (bkm m) := by unfold bkm; exact cps_MR hMX _ _
    have hb8 : bkm m 8 1 = (m 8 1 + 6 - 1) % 6 ∧ bkm m 8 2 = m 8 2 - 1 := by
      unfold bkm
      rw [cps_ne _ _ _ (by decide), stm_ix _ _ _ (by decide), stm_eq, stm_eq]
      exact ⟨rfl, rfl⟩
    obtain ⟨o0, q0⟩ := hsl 0 (by omega) (by omega)
    have esl : sl (m 8 1) 0 = 10 + 7 * ((m 8 1 + 6 - 1) % 6).toNat := by unfold sl; omega
    rw [esl] at o0 q0
    have hqX : ∀ j : Nat, 1 ≤ j → j ≤ 6 → stm (stm m 8 1 ((m 8 1 + 6 - 1) % 6)) 8 2 (m 8 2 - 1) (10 + 7 * ((m 8 1 + 6 - 1) % 6).toNat + j) = m (10 + 7 * ((m 8 1 + 6 - 1) % 6).toNat + j) := fun j j1 j2 => hX _ (by omega)
    have o1 := o0.cg hqX
    have q1 := q0.cg o0 hqX (r' := m 77) (o' := 140 + 140 * (m 8 2 - 1 - 0)) (fun _ _ _ => rfl)
    have hd : 1 + 6 < 10 + 7 * ((m 8 1 + 6 - 1) % 6).toNat + 1 ∨ 10 + 7 * ((m 8 1 + 6 - 1) % 6).toNat + 6 < 1 + 1 := by omega
    have o2 : okm (bkm m) 1 := cps_ok hd o1
    have hg : GM (bkm m) := h.gm.cg hMb (hb1 76 (by omega)) (hb1 77 (by omega)) (hb1 78 (by omega))
    have e1 : bkm m 76 1 = m 8 2 := by rw [hb1 76 (by omega), h76]
    refine CM.up (s_X12_back hg ?_) (by decide)
    rw [e1, if_neg hc, if_neg hc]
    refine ⟨rfl, ⟨_, rfl⟩, ?_⟩
    have k77 : ∀ j, bck (bkm m) 77 j = if 0 ≤ j ∧ j < 140 then m 77 (140 + 140 * (m 8 2 - 1) + j) else m 77 j := fun j => by
      unfold bck
      rw [mcp_at _ (Or.inl (by rw [e1]; omega)), e1]
      have s77 : stm (bkm m) 76 1 (m 8 2 - 1) 77 = m 77 := by rw [stm_ne _ _ _ (by decide), hb1 77 (by omega)]
      rw [s77]
      by_cases hj : 0 ≤ j ∧ j < 140
      · rw [if_pos hj, if_pos (by omega), Int.sub_zero]
      · rw [if_neg hj, if_neg (by omega)]
    have kq : ∀ q : Nat, q ≠ 76 → q ≠ 77 → bck (bkm m) q = bkm m q := fun q q1 q2 => by unfold bck; rw [mcp_ne _ _ _ q2, stm_ne _ _ _ q1]
    have k761 : bck (bkm m) 76 1 = m 8 2 - 1 := by unfold bck; rw [mcp_ne _ _ _ (by decide), stm_eq, e1]
    have k764 : bck (bkm m) 76 4 = m 76 4 := by unfold bck; rw [mcp_ne _ _ _ (by decide), stm_ix _ _ _ (by decide), hb1 76 (by omega)]
    have hM2 : MR (bck (bkm m)) := by unfold bck; exact mcp_MR (hMb.st (by rw [e1]; omega)) _ _
    have q2 : eqm (bkm m) 1 (bck (bkm m) 77) 0 := cps_eq hd o1 q1 (fun i i0 i1 => by
      rw [k77, if_pos (by omega)]
      exact congrArg (m 77) (by omega))
    generalize bck (bkm m) = Y at k77 kq k761 k764 hM2 q2
    have hq1 : ∀ j : Nat, 1 ≤ j → j ≤ 6 → Y (1 + j) = bkm m (1 + j) := fun j j1 j2 => kq _ (by omega) (by omega)
    have y8 : Y 8 = bkm m 8 := kq 8 (by decide) (by decide)
    have hfin : INV e Y := by
      refine h.cg3 hM2 (o2.cg hq1) (q2.cg o2 hq1 (fun _ _ _ => rfl)) ⟨?_, ?_, fun i i0 i1 => ?_⟩ ?_ ?_ (by rw [kq 75 (by decide) (by decide), hb1 75 (by omega)]) (by rw [kq 78 (by decide) (by decide), hb1 78 (by omega)])
      · unfold PX; rw [y8, hb8.1, hb8.2]; omega
      · rw [y8, hb8.2]; exact k761
      · rw [y8, hb8.2] at i1
        rw [y8, hb8.1, hb8.2]
        obtain ⟨o3, q3⟩ := hsl (i + 1) (by omega) (by omega)
        have es : sl (m 8 1) (i + 1) = sl ((m 8 1 + 6 - 1) % 6) i := by unfold sl; omega
        rw [es] at o3 q3
        have hq3 : ∀ j : Nat, 1 ≤ j → j ≤ 6 → Y (sl ((m 8 1 + 6 - 1) % 6) i + j) = m (sl ((m 8 1 + 6 - 1) % 6) i + j) := fun j j1 j2 => by
          rw [kq _ (by unfold sl; omega) (by unfold sl; omega), hb1 _ (by unfold sl; omega)]
        refine ⟨o3.cg hq3, q3.cg o3 hq3 (fun k k0 k1 => ?_)⟩
        rw [k77, if_neg (by omega)]
        exact congrArg (m 77) (by omega)
      · rw [kq 52 (by decide) (by decide), kq 53 (by decide) (by decide), kq 79 (by decide) (by decide), hb1 52 (by omega), hb1 53 (by omega), hb1 79 (by omega), k764]; exact h.2.2.2.2.1
      · unfold TRL; rw [kq 68 (by decide) (by decide), hb1 68 (by omega)]; exact h.2.2.2.2.2.1
    exact hfin.up he
