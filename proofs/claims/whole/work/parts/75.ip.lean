/-! ===== a call on both sides keeps the invariant ===== -/
theorem CM.up {G : GG} {d d2 : Nat} {M : MM} {av : List Value} {m : Mem} {Q : Option Value → Mem → Prop} (h : CM G d M av m Q) (hd : d ≤ d2) : CM G d2 M av m Q := AM.mono h hd
def RES (e : Int) (r : Option Value) : Option Value → Mem → Prop := fun r2 m2 => r2 = r ∧ (∃ z, r = some (.int (J z))) ∧ INV (e + 1) m2
theorem INV.se {e : Int} {m : Mem} (h : INV e m) : SE m m := ⟨h.2.1, (eqm_2 m m).mp h.2.2.1⟩
theorem INV.sg {e : Int} {m : Mem} (h : INV e m) : INV e (stg m) := by
  obtain ⟨a1, a2, a3, a4, a5, a6, a7⟩ := h
  have hx := a4.1
  have e1 : ∀ p : Nat, p ≤ 9 ∨ 52 ≤ p → stg m p = m p := fun p hp => stg_ne m hp hx
  have hq1 : ∀ j : Nat, 1 ≤ j → j ≤ 6 → stg m (1 + j) = m (1 + j) := fun j j1 j2 => e1 _ (by omega)
  refine ⟨cps_MR a1 _ _, a2.cg hq1, a3.cg a2 hq1 (fun i _ _ => by rw [e1 77 (by decide)]), hst_stay a4 (e1 8 (by decide)) (by rw [e1 76 (by decide)]) (fun q q1 q2 q3 => cps_ne m _ _ (by omega)) (fun i _ _ => by rw [e1 77 (by decide)]), ?_, ?_, ?_⟩
  · rw [e1 52 (by decide), e1 53 (by decide), e1 76 (by decide), e1 79 (by decide)]; exact a5
  · unfold TRL; rw [e1 68 (by decide)]; exact a6
  · rw [e1 75 (by decide), e1 78 (by decide)]; exact a7
theorem INV.up {e : Int} {m : Mem} (h : INV e m) (he : e < 512) : INV (e + 1) m := h.mono (by omega) (by omega)
theorem mdm_cg {m z : Mem} (hs : ST m) (h1 : z 76 1 = m 76 1) (h7 : ∀ i, i < 840 → z 77 i = m 77 i) : mdm z 76 1 = mdm m 76 1 ∧ ∀ j, j < 840 → mdm z 77 j = mdm m 77 j := by
  have hz : ST z := by unfold ST; rw [h1]; exact hs
  have e1 : md1 z 76 1 = md1 m 76 1 := by rw [md1_1, md1_1, h1]
  have hb := md1_st hs
  have e7 : ∀ j, j < 840 → md1 z 77 j = md1 m 77 j := fun j hj => by
    rw [md1_at, md1_at, h1, md0_at, md0_at, h7 j hj]
    split
    · split
      · exact h7 _ (by omega)
      · rfl
    · rfl
  refine ⟨by rw [mdm_1 hz, mdm_1 hs, h1], fun j hj => ?_⟩
  rw [mdm_at hz, mdm_at hs, e1]
  split
  · exact e7 _ (by omega)
  · exact e7 j hj
theorem mdm_76 (m : Mem) {j : Int} (hj : j ≠ 1) : mdm m 76 j = m 76 j := by
  unfold mdm
  rw [stm_ix _ _ _ hj, mcp_ne _ _ _ (by decide)]
  unfold md1
  split
  · rw [stm_ix _ _ _ hj, md0_ne _ (by decide)]
  · rfl
theorem ks_ne (x : Mem) {q : Nat} (h : q ≠ 8) : ks x q = x q := by unfold ks; rw [stm_ne _ _ _ h, stm_ne _ _ _ h]
theorem ks_MR {x : Mem} (hM : MR x) (hp : PX x) : MR (ks x) := by
  have h1 := hp.1; have h2 := hp.2
  unfold ks
  refine (hM.st (by omega)).st ?_
  unfold mn
  split <;> omega
theorem INV.push {e : Int} {m x y : Mem} (h : INV e m) (hx8 : x 8 = m 8) (hxs : ∀ q : Nat, 10 ≤ q → q ≤ 51 → x q = stg m q) (h521 : x 52 1 = m 52 1) (h53 : x 53 = m 53) (h75 : x 75 = m 75) (ht : TRL x) (hy : ∀ q : Nat, q ≤ 75 → y q = ks x q) (h761 : y 76 1 = mdm m 76 1) (h764 : y 76 4 = m 76 4) (h77 : ∀ i, 140 ≤ i → i < 840 → y 77 i = mdm m 77 i) (h78 : y 78 = m 78) (h79 : y 79 = m 79) (hM : MR y) (hS : SE x y) : INV e y := by
  obtain ⟨a1, a2, a3, a4, a5, a6, a7⟩ := h
  have hyx : ∀ q : Nat, q ≤ 75 → q ≠ 8 → y q = x q := fun q q1 q2 => by rw [hy q q1, ks_ne _ q2]
  have hq1 : ∀ j : Nat, 1 ≤ j → j ≤ 6 → y (1 + j) = x (1 + j) := fun j j1 j2 => hyx _ (by omega) (by omega)
  have hok : okm x 1 := hS.1
  have heq : eqm x 1 (y 77) 0 := (eqm_2 x y).mpr hS.2
  refine ⟨hM, hok.cg hq1, heq.cg hok hq1 (fun _ _ _ => rfl), hst_push a4 a2 a3 ?_ ?_ h761 (fun q q1 q2 => by rw [hyx q (by omega) (by omega)]; exact hxs q q1 q2) h77, ?_, ?_, ?_⟩
  · rw [hy 8 (by decide)]; unfold ks; rw [stm_ix _ _ _ (by decide), stm_eq, hx8]
  · rw [hy 8 (by decide)]; unfold ks; rw [stm_eq, hx8]
  · rw [hyx 52 (by decide) (by decide), h521, h764, h79, hyx 53 (by decide) (by decide), h53]; exact a5
  · unfold TRL; rw [hyx 68 (by decide) (by decide)]; exact ht
  · rw [hyx 75 (by decide) (by decide), h75, h78]; exact a7
/-- a call that changes the state and succeeds -/
theorem INV.mut {e : Int} {m x : Mem} (h : INV e m) (hx : ∀ q : Nat, q < 2 ∨ 7 < q → x q = stg m q) (hM : MR x) : GM (ks x) ∧ MR (mdm (ks x)) ∧ (∀ i, i < 140 → mdm (ks x) 77 i = m 77 i) ∧ ∀ y : Mem, (∀ q : Nat, q ≠ 76 → q ≠ 77 → y q = mdm (ks x) q) → y 76 1 = mdm (ks x) 76 1 → y 76 4 = mdm (ks x) 76 4 → (∀ i, 140 ≤ i → i < 840 → y 77 i = mdm (ks x) 77 i) → MR y → SE x y → INV e y := by
  have hpx := h.2.2.2.1.1
  have hs := h.2.2.2.1.st
  have e1 : ∀ p : Nat, p = 8 ∨ p = 9 ∨ 52 ≤ p → x p = m p := fun p hp => by rw [hx p (by omega), stg_ne m (by omega) hpx]
  have k1 : ∀ p : Nat, 52 ≤ p → ks x p = m p := fun p hp => by rw [ks_ne _ (by omega), e1 p (by omega)]
  have hPX : PX x := px_of (e1 8 (by omega)) hpx
  have hMk := ks_MR hM hPX
  have hg : GM (ks x) := h.gm.cg hMk (k1 76 (by decide)) (k1 77 (by decide)) (k1 78 (by decide))
  have hs2 : ST (ks x) := hg.2.2.1
  have hc := mdm_cg (m := m) (z := ks x) hs (by rw [k1 76 (by decide)]) (fun i _ => by rw [k1 77 (by decide)])
  refine ⟨hg, mdm_MR hMk hs2, fun i hi => by rw [hc.2 i (by omega), mdm_lo hs hi], fun y y1 y2 y3 y4 y5 y6 => ?_⟩
  refine h.push (e1 8 (by omega)) (fun q q1 q2 => hx q (by omega)) (by rw [e1 52 (by omega)]) (e1 53 (by omega)) (e1 75 (by omega)) ?_ (fun q q1 => by rw [y1 q (by omega) (by omega), mdm_ne _ (by omega) (by omega)]) (by rw [y2]; exact hc.1) (by rw [y3, mdm_76 _ (by decide), k1 76 (by decide)]) (fun i i0 i1 => by rw [y4 i i0 i1]; exact hc.2 i i1) (by rw [y1 78 (by decide) (by decide), mdm_ne _ (by decide) (by decide), k1 78 (by decide)]) (by rw [y1 79 (by decide) (by decide), mdm_ne _ (by decide) (by decide), k1 79 (by decide)]) y5 y6
  unfold TRL
  rw [e1 68 (by omega)]
  exact h.2.2.2.2.2.1
theorem udm_ge {x : Mem} {r : Int} (h : 0 ≤ r) : udm x r = ks x := if_pos h
theorem udm_lt {x : Mem} {r : Int} (h : r < 0) : udm x r = ctm x r := if_neg (by omega)
theorem udm_77 (x : Mem) (r : Int) : udm x r 77 = x 77 := by
  unfold udm
  split
  · exact ks_ne _ (by decide)
  · exact ctm_ne _ _ (by decide)
/-! sign, drops, weight, word, cuts, shifts, clears, lays, becomes, draws -/
theorem st_sign {G : GG} {e : Int} {m : Mem} (h : INV e m) (he : e < 512) {a b c d f : Int} (ra : rg a) (rb : rg b) (rc : rg c) (rd : rg d) (rf : rg f) : CM G 20 mX11_sign [.ref (G.2.2.2 0), .int (J a), .int (J b), .int (J c), .int (J d), .int (J f)] m (fun r m1 => CM G 20 mX12_sign [.ref (G.2.2.2 76), .int (J a), .int (J b), .int (J c), .int (J d), .int (J f)] m1 (RES e r)) := by
  refine CM.up (s_X11_sign h.gi ra rb rc rd rf ?_) (by decide)
  have hI := h.sg
  have hS := hI.se
  have x7 : adx (stg m) a b c d f 77 = stg m 77 := adx_ne _ _ _ _ _ _ (by decide) (by decide)
  have hS1 : SE (stg m) (udm (adx (stg m) a b c d f) (adr (stg m) a b c d f)) := hS.cgz (fun i _ _ => by rw [udm_77, x7])
  obtain ⟨s1, s2, s3⟩ := hS1.sign a b c d f
  have hMx := adx_MR hI.1 hI.gi.2.1.1 ra rb rc rd rf
  have hxq : ∀ q : Nat, q < 2 ∨ 7 < q → adx (stg m) a b c d f q = stg m q := fun q hq => adx_ne _ _ _ _ _ _ (by omega) (by omega)
  generalize hm1 : udm (adx (stg m) a b c d f) (adr (stg m) a b c d f) = m1 at s1 s2 s3 hS1 ⊢
  have hr := cns_rg m1 a b c d f
  by_cases hc : cns m1 a b c d f < 0
  · rw [if_pos hc] at s1
    have e1 : m1 = ctm (adx (stg m) a b c d f) (cns m1 a b c d f) := by rw [← s1, ← hm1]; exact udm_lt (by omega)
    obtain ⟨t1, t2⟩ := s3 (by omega)
    have hIx : INV e (adx (stg m) a b c d f) := hI.tr hMx t2 t1
    have hr2 : -4 ≤ cns m1 a b c d f ∧ cns m1 a b c d f ≤ -2 := by
      refine ⟨hr.1, ?_⟩
      unfold cns at hc ⊢
      (repeat' split at hc) <;> (repeat' split) <;> omega
    obtain ⟨g1, g2⟩ := hIx.err he hr2
    rw [← e1] at g1 g2
    refine CM.up (s_X12_sign g1 ra rb rc rd rf ?_) (by decide)
    rw [if_pos hc, if_pos hc]
    exact ⟨by rw [s1], ⟨_, rfl⟩, g2⟩
  · rw [if_neg hc] at s1
    have e77 : 0 ≤ m1 77 0 := by have := hS1.2.1; have := hS1.1.1; omega
    have e1 : m1 = ks (adx (stg m) a b c d f) := by rw [← hm1]; exact udm_ge (by omega)
    obtain ⟨g1, g2, g3, g4⟩ := h.mut hxq hMx
    have hS2 : SE (stg m) (mdm (ks (adx (stg m) a b c d f))) := hS.cgz (fun i i0 i1 => by rw [g3 i i1, stg_ne m (by decide) h.2.2.2.1.1])
    obtain ⟨u1, u2, u3⟩ := hS2.sign a b c d f
    have hz : cns (mdm (ks (adx (stg m) a b c d f))) a b c d f = 0 := by
      have := cns_rg (mdm (ks (adx (stg m) a b c d f))) a b c d f
      by_cases hq : cns (mdm (ks (adx (stg m) a b c d f))) a b c d f < 0
      · rw [if_pos hq] at u1; omega
      · omega
    have hSE := u2 hz
    have hn := hS2.2.1
    have ho := hS2.1.1
    have h16 := cns_0 hz (by unfold NM; omega)
    rw [← e1] at g1 g2 g4 hSE hn h16
    refine CM.up (s_X12_sign g1 ra rb rc rd rf ?_) (by decide)
    rw [if_neg hc, if_neg hc]
    refine ⟨by rw [s1], ⟨_, rfl⟩, (g4 _ (fun q q1 q2 => adm_ne _ _ _ _ _ _ q2) (by rw [adm_ne _ _ _ _ _ _ (by decide)]) (by rw [adm_ne _ _ _ _ _ _ (by decide)]) (fun i i0 i1 => adm_out _ _ _ _ _ _ (by omega) (by omega)) (adm_MR g2 (by unfold NM; omega) ra rb rc rd rf) hSE).up he⟩
theorem gos_out (z : Mem) {k i : Int} (hn : 0 ≤ z 77 0 ∧ z 77 0 ≤ 16) (hc : z 77 1 ≤ 16) (hi : 130 ≤ i) : gos z k 77 i = z 77 i := by
  rw [gos_lo z (by omega) hc, gos1_at, if_neg (by omega), stm_ix _ _ _ (by omega)]
theorem st_drops {G : GG} {e : Int} {m : Mem} (h : INV e m) (he : e < 512) {a : Int} (ra : rg a) : CM G 20 mX11_drops [.ref (G.2.2.2 0), .int (J a)] m (fun r m1 => CM G 20 mX12_drops [.ref (G.2.2.2 76), .int (J a)] m1 (RES e r)) := by
  refine CM.up (s_X11_drops h.gi ra ?_) (by decide)
  have hI := h.sg
  have hS := hI.se
  have x7 : dpx (stg m) a 77 = stg m 77 := dpx_ne _ _ (by decide) (by decide) (by decide)
  have hS1 : SE (stg m) (udm (dpx (stg m) a) (dpr (stg m) a)) := hS.cgz (fun i _ _ => by rw [udm_77, x7])
  obtain ⟨s1, s2, s3⟩ := hS1.drops a
  obtain ⟨w1, w2, w3, w4, w5, w6⟩ := hS.w0
  have hMx := dpx_MR hI.1 w1 w2 w5 a
  have hxq : ∀ q : Nat, q < 2 ∨ 7 < q → dpx (stg m) a q = stg m q := fun q hq => dpx_ne _ _ (by omega) (by omega) (by omega)
  generalize hm1 : udm (dpx (stg m) a) (dpr (stg m) a) = m1 at s1 s2 s3 hS1 ⊢
  have hr := cnd_rg m1 a
  by_cases hc : cnd m1 a < 0
  · rw [if_pos hc] at s1
    have t1 := s3 (by omega)
    have e1 : m1 = ctm (stg m) (cnd m1 a) := by rw [← s1, ← hm1, t1]; exact udm_lt (by omega)
    have hr2 : -4 ≤ cnd m1 a ∧ cnd m1 a ≤ -2 := by
      refine ⟨hr.1, ?_⟩
      unfold cnd at hc ⊢
      (repeat' split at hc) <;> (repeat' split) <;> omega
    obtain ⟨g1, g2⟩ := hI.err he hr2
    rw [← e1] at g1 g2
    refine CM.up (s_X12_drops g1 ra ?_) (by decide)
    rw [if_pos hc, if_pos hc]
    exact ⟨by rw [s1], ⟨_, rfl⟩, g2⟩
  · have hp := (s2 (by omega)).1
    rw [if_neg hc] at s1
    have e1 : m1 = ks (dpx (stg m) a) := by rw [← hm1]; exact udm_ge hp
    obtain ⟨g1, g2, g3, g4⟩ := h.mut hxq hMx
    have hS2 : SE (stg m) (mdm (ks (dpx (stg m) a))) := hS.cgz (fun i i0 i1 => by rw [g3 i i1, stg_ne m (by decide) h.2.2.2.1.1])
    obtain ⟨u1, u2, u3⟩ := hS2.drops a
    have hz : cnd (mdm (ks (dpx (stg m) a))) a = 0 := by
      have := cnd_rg (mdm (ks (dpx (stg m) a))) a
      by_cases hq : cnd (mdm (ks (dpx (stg m) a))) a < 0
      · rw [if_pos hq] at u1; omega
      · omega
    have hSE := (u2 hz).2
    obtain ⟨v1, v2, v3, v4, v5, v6⟩ := hS2.w0
    have hk := cnd_0 hz
    rw [← e1] at g1 g2 g4 hSE v3 v4 v6 hk
    refine CM.up (s_X12_drops g1 ra ?_) (by decide)
    rw [if_neg hc, if_neg hc]
    refine ⟨by rw [s1], ⟨_, rfl⟩, (g4 _ (fun q q1 q2 => gos_ne _ _ q2) (by rw [gos_ne _ _ (by decide)]) (by rw [gos_ne _ _ (by decide)]) (fun i i0 i1 => gos_out _ v3 v4.2 (by omega)) (gos_MR g2 v3 v6 hk) hSE).up he⟩
theorem st_weight {G : GG} {e : Int} {m : Mem} (h : INV e m) (he : e < 512) {a b : Int} (ra : rg a) (rb : rg b) : CM G 20 mX11_weight [.ref (G.2.2.2 0), .int (J a), .int (J b)] m (fun r m1 => CM G 20 mX12_weight [.ref (G.2.2.2 76), .int (J a), .int (J b)] m1 (RES e r)) := by
  refine CM.up (s_X11_weight h.gi ra rb ?_) (by decide)
  have hI := h.sg
  have hS := hI.se
  have hMx := wtx_MR (a := a) hI.1 rb
  have hxq : ∀ q : Nat, q < 2 ∨ 7 < q → wtx (stg m) a b q = stg m q := fun q hq => wtx_ne _ _ _ (by omega)
  by_cases hc : (0 ≤ a ∧ a ≤ 3) ∧ (0 ≤ b ∧ b ≤ 5)
  · obtain ⟨g1, g2, g3, g4⟩ := h.mut hxq hMx
    have hS2 : SE (stg m) (mdm (ks (wtx (stg m) a b))) := hS.cgz (fun i i0 i1 => by rw [g3 i i1, stg_ne m (by decide) h.2.2.2.1.1])
    obtain ⟨u1, u2, u3⟩ := hS2.weight hc
    rw [udm_ge u2]
    refine CM.up (s_X12_weight g1 ra rb ?_) (by decide)
    rw [if_neg (fun q => q hc), if_neg (fun q => q hc)]
    have hv : ks (wtx (stg m) a b) 77 (130 + a) = wtr (stg m) a b := by rw [u1, g3 _ (by omega), ks_ne _ (by decide), wtx_ne _ _ _ (by decide), stg_ne m (by decide) h.2.2.2.1.1]
    refine ⟨by rw [hv], ⟨_, rfl⟩, (g4 _ (fun q q1 q2 => stm_ne _ _ _ q2) (by rw [stm_ne _ _ _ (by decide)]) (by rw [stm_ne _ _ _ (by decide)]) (fun i i0 i1 => stm_ix _ _ _ (by omega)) (g2.st rb) u3).up he⟩
  · have e1 : wtr (stg m) a b = -2 := if_neg hc
    have e2 : wtx (stg m) a b = stg m := if_neg hc
    rw [e1, e2, udm_lt (by decide)]
    obtain ⟨g1, g2⟩ := hI.err he (r := -2) (by decide)
    refine CM.up (s_X12_weight g1 ra rb ?_) (by decide)
    rw [if_pos hc, if_pos hc]
    exact ⟨rfl, ⟨_, rfl⟩, g2⟩
theorem sym_out (z : Mem) (a b c : Int) {i : Int} (hc : 0 ≤ z 77 1 ∧ z 77 1 < 16) (hi : 130 ≤ i) : sym z a b c 77 i = z 77 i := by
  unfold sym
  rw [stm_ix _ _ _ (by omega), stm_ix _ _ _ (by omega), stm_ix _ _ _ (by omega), stm_ix _ _ _ (by omega)]
theorem st_word {G : GG} {e : Int} {m : Mem} (h : INV e m) (he : e < 512) {a b c : Int} (ra : rg a) (rb : rg b) (rc : rg c) : CM G 20 mX11_word [.ref (G.2.2.2 0), .int (J a), .int (J b), .int (J c)] m (fun r m1 => CM G 20 mX12_word [.ref (G.2.2.2 76), .int (J a), .int (J b), .int (J c)] m1 (RES e r)) := by
  refine CM.up (s_X11_word h.gi ra rb rc ?_) (by decide)
  have hI := h.sg
  have hS := hI.se
  have x7 : awx (stg m) a b c 77 = stg m 77 := awx_ne _ _ _ _ (by decide) (by decide)
  have hS1 : SE (stg m) (udm (awx (stg m) a b c) (awr (stg m) a b c)) := hS.cgz (fun i _ _ => by rw [udm_77, x7])
  obtain ⟨s1, s2, s3⟩ := hS1.word a b c
  obtain ⟨w1, w2, w3, w4, w5, w6⟩ := hS.w0
  have hMx := awx_MR hI.1 w2 ra rb rc
  have hxq : ∀ q : Nat, q < 2 ∨ 7 < q → awx (stg m) a b c q = stg m q := fun q hq => awx_ne _ _ _ _ (by omega) (by omega)
  generalize hm1 : udm (awx (stg m) a b c) (awr (stg m) a b c) = m1 at s1 s2 s3 hS1 ⊢
  have hr := csy_rg m1 a b c
  by_cases hc : csy m1 a b c < 0
  · rw [if_pos hc] at s1
    have t1 := s3 (by omega)
    have e1 : m1 = ctm (stg m) (csy m1 a b c) := by rw [← s1, ← hm1, t1]; exact udm_lt (by omega)
    have hr2 : -4 ≤ csy m1 a b c ∧ csy m1 a b c ≤ -2 := by
      refine ⟨hr.1, ?_⟩
      unfold csy at hc ⊢
      (repeat' split at hc) <;> (repeat' split) <;> omega
    obtain ⟨g1, g2⟩ := hI.err he hr2
    rw [← e1] at g1 g2
    refine CM.up (s_X12_word g1 ra rb rc ?_) (by decide)
    rw [if_pos hc, if_pos hc]
    exact ⟨by rw [s1], ⟨_, rfl⟩, g2⟩
  · rw [if_neg hc] at s1
    have e77 : 0 ≤ m1 77 1 := by have := hS1.2.2.1; have := hS1.1.2.1; omega
    have e1 : m1 = ks (awx (stg m) a b c) := by rw [← hm1]; exact udm_ge (by omega)
    obtain ⟨g1, g2, g3, g4⟩ := h.mut hxq hMx
    have hS2 : SE (stg m) (mdm (ks (awx (stg m) a b c))) := hS.cgz (fun i i0 i1 => by rw [g3 i i1, stg_ne m (by decide) h.2.2.2.1.1])
    obtain ⟨u1, u2, u3⟩ := hS2.word a b c
    have hz : csy (mdm (ks (awx (stg m) a b c))) a b c = 0 := by
      have := csy_rg (mdm (ks (awx (stg m) a b c))) a b c
      by_cases hq : csy (mdm (ks (awx (stg m) a b c))) a b c < 0
      · rw [if_pos hq] at u1; omega
      · omega
    have hSE := u2 hz
    obtain ⟨v1, v2, v3, v4, v5, v6⟩ := hS2.w0
    have h16 := csy_0 hz v4
    rw [← e1] at g1 g2 g4 hSE v4 h16
    refine CM.up (s_X12_word g1 ra rb rc ?_) (by decide)
    rw [if_neg hc, if_neg hc]
    refine ⟨by rw [s1], ⟨_, rfl⟩, (g4 _ (fun q q1 q2 => sym_ne _ _ _ _ q2) (by rw [sym_ne _ _ _ _ (by decide)]) (by rw [sym_ne _ _ _ _ (by decide)]) (fun i i0 i1 => sym_out _ _ _ _ ⟨v4.1, h16⟩ (by omega)) (sym_MR g2 v4 ra rb rc) hSE).up he⟩
theorem ctw_ne (z : Mem) (a : Int) {q : Nat} (h : q ≠ 77) : ctw z a q = z q := by
  unfold ctw
  rw [it_8 (fun i x => stm_ne _ _ _ h) _ _ _, stm_ne _ _ _ h]
theorem ctw_out (z : Mem) {a i : Int} (hc : z 77 1 ≤ 16) (hi : 130 ≤ i) : ctw z a 77 i = z 77 i := by
  unfold ctw
  rw [its (f := fun j (x : Mem) => stm x 77 j (x 77 (j + 3))) (q := 77) (a := 3) (b := 0) (fun i x => by rw [Int.zero_add, Int.add_comm 3 i]) _ _ _ (Or.inl (by decide)), if_neg (by omega), stm_ix _ _ _ (by omega)]
theorem ctw_MR {z : Mem} (hM : MR z) (hc : CMd z) (a : Int) : MR (ctw z a) := by
  have h1 := hc.1; have h2 := hc.2
  unfold ctw
  exact MR_it (fun i x hx => hx.st (hx _ _)) _ _ _ (hM.st (by omega))
theorem cux_MR {x : Mem} (hM : MR x) (hs : SN x) (a : Int) : MR (cux x a) := by
  have h1 := hs.1; have h2 := hs.2
  unfold cux
  split
  · unfold rmw mvm
    exact hM.cp.st (by omega)
  · exact hM
theorem st_cuts {G : GG} {e : Int} {m : Mem} (h : INV e m) (he : e < 512) {a : Int} (ra : rg a) : CM G 20 mX11_cuts [.ref (G.2.2.2 0), .int (J a)] m (fun r m1 => CM G 20 mX12_cuts [.ref (G.2.2.2 76), .int (J a)] m1 (RES e r)) := by
  refine CM.up (s_X11_cuts h.gi ra ?_) (by decide)
  have hI := h.sg
  have hS := hI.se
  have e1 := hS.2.2.1
  obtain ⟨w1, w2, w3, w4, w5, w6⟩ := hS.w0
  have hMx := cux_MR hI.1 w2 a
  have hxq : ∀ q : Nat, q < 2 ∨ 7 < q → cux (stg m) a q = stg m q := fun q hq => cux_ne _ _ (by omega) (by omega)
  by_cases hc : 0 ≤ a ∧ a < stg m 5 1
  · have er : cur (stg m) a = stg m 5 1 - 1 := if_pos hc
    have ex : cux (stg m) a = rmw (stg m) a := if_pos hc
    obtain ⟨g1, g2, g3, g4⟩ := h.mut hxq hMx
    have hS2 : SE (stg m) (mdm (ks (cux (stg m) a))) := hS.cgz (fun i i0 i1 => by rw [g3 i i1, stg_ne m (by decide) h.2.2.2.1.1])
    have hSE := hS2.cuts hc
    rw [← ex] at hSE
    obtain ⟨v1, v2, v3, v4, v5, v6⟩ := hS2.w0
    have h77 : ks (cux (stg m) a) 77 1 = stg m 5 1 := by rw [ks_ne _ (by decide), cux_ne _ _ (by decide) (by decide), e1]
    rw [er, udm_ge (by omega)]
    refine CM.up (s_X12_cuts g1 ra ?_) (by decide)
    rw [h77, if_pos hc, if_pos hc]
    exact ⟨rfl, ⟨_, rfl⟩, (g4 _ (fun q q1 q2 => ctw_ne _ _ q2) (by rw [ctw_ne _ _ (by decide)]) (by rw [ctw_ne _ _ (by decide)]) (fun i i0 i1 => ctw_out _ v4.2 (by omega)) (ctw_MR g2 v4 a) hSE).up he⟩
  · have er : cur (stg m) a = -2 := if_neg hc
    have ex : cux (stg m) a = stg m := if_neg hc
    rw [er, ex, udm_lt (by decide)]
    obtain ⟨g1, g2⟩ := hI.err he (r := -2) (by decide)
    refine CM.up (s_X12_cuts g1 ra ?_) (by decide)
    rw [ctm_ne _ _ (q := 77) (by decide), ← e1, if_neg hc, if_neg hc]
    exact ⟨rfl, ⟨_, rfl⟩, g2⟩
theorem sfm_MR {j : Int} : ∀ (k : Nat) (a : Int) (z : Mem), MR z → MR (sfm j k a z)
  | 0, _, _, h => h
  | k + 1, a, z, h => sfm_MR k _ _ (MR_it (fun i x hx => (hx.st (hx _ _)).st (hx _ _)) _ _ _ h)
theorem shx_MR {x : Mem} (hM : MR x) (i j : Int) : MR (shx x i j) := by
  unfold shx
  split
  · unfold shf putm mvm
    have : MR (if i < j then sr x 6 (cpr (x 6) (x 6) ((i + 1) * 3) (i * 3) ((j - i) * 3)) else sr x 6 (cpr (x 6) (x 6) (j * 3) ((j + 1) * 3) ((i - j) * 3))) := by split <;> exact hM.cp
    exact ((this.st (hM _ _)).st (hM _ _)).st (hM _ _)
  · exact hM
theorem st_shifts {G : GG} {e : Int} {m : Mem} (h : INV e m) (he : e < 512) {a b : Int} (ra : rg a) (rb : rg b) : CM G 20 mX11_shifts [.ref (G.2.2.2 0), .int (J a), .int (J b)] m (fun r m1 => CM G 20 mX12_shifts [.ref (G.2.2.2 76), .int (J a), .int (J b)] m1 (RES e r)) := by
  refine CM.up (s_X11_shifts h.gi ra rb ?_) (by decide)
  have hI := h.sg
  have hS := hI.se
  have e1 := hS.2.2.1
  have o2 := hS.1.2.1
  have hMx := shx_MR hI.1 a b
  have hxq : ∀ q : Nat, q < 2 ∨ 7 < q → shx (stg m) a b q = stg m q := fun q hq => shx_ne _ _ _ (by omega)
  by_cases hc : (0 ≤ a ∧ a < stg m 5 1) ∧ (0 ≤ b ∧ b < stg m 5 1)
  · have er : shr_ (stg m) a b = ab (a - b) := if_pos hc
    have ex : shx (stg m) a b = shf (stg m) a b := if_pos hc
    obtain ⟨g1, g2, g3, g4⟩ := h.mut hxq hMx
    have hS2 : SE (stg m) (mdm (ks (shx (stg m) a b))) := hS.cgz (fun i i0 i1 => by rw [g3 i i1, stg_ne m (by decide) h.2.2.2.1.1])
    have hSE := hS2.shifts hc
    rw [← ex] at hSE
    have h77 : ks (shx (stg m) a b) 77 1 = stg m 5 1 := by rw [ks_ne _ (by decide), shx_ne _ _ _ (by decide), e1]
    rw [er, udm_ge (by unfold ab; split <;> omega)]
    refine CM.up (s_X12_shifts g1 ra rb ?_) (by decide)
    rw [h77, if_pos hc, if_pos hc]
    exact ⟨rfl, ⟨_, rfl⟩, (g4 _ (fun q q1 q2 => sfm_ne _ q2 _ _ _) (by rw [sfm_ne _ (by decide)]) (by rw [sfm_ne _ (by decide)]) (fun i i0 i1 => sfm_out _ (by omega) (by omega) (by omega)) (sfm_MR _ _ _ g2) hSE).up he⟩
  · have er : shr_ (stg m) a b = -2 := if_neg hc
    have ex : shx (stg m) a b = stg m := if_neg hc
    rw [er, ex, udm_lt (by decide)]
    obtain ⟨g1, g2⟩ := hI.err he (r := -2) (by decide)
    refine CM.up (s_X12_shifts g1 ra rb ?_) (by decide)
    rw [ctm_ne _ _ (q := 77) (by decide), ← e1, if_neg hc, if_neg hc]
    exact ⟨rfl, ⟨_, rfl⟩, g2⟩
theorem st_clears {G : GG} {e : Int} {m : Mem} (h : INV e m) (he : e < 512) : CM G 20 mX11_clears [.ref (G.2.2.2 0)] m (fun r m1 => CM G 20 mX12_clears [.ref (G.2.2.2 76)] m1 (RES e r)) := by
  refine CM.up (s_X11_clears h.gi ?_) (by decide)
  have hI := h.sg
  have hS := hI.se
  have e1 := hS.2.2.1
  obtain ⟨g1, g2, g3, g4⟩ := h.mut (x := stm (stg m) 5 1 0) (fun q hq => stm_ne _ _ _ (by omega)) (hI.1.st (by decide))
  have hS2 : SE (stg m) (mdm (ks (stm (stg m) 5 1 0))) := hS.cgz (fun i i0 i1 => by rw [g3 i i1, stg_ne m (by decide) h.2.2.2.1.1])
  have h77 : ks (stm (stg m) 5 1 0) 77 1 = stg m 5 1 := by rw [ks_ne _ (by decide), stm_ne _ _ _ (by decide), e1]
  refine CM.up (s_X12_clears g1 ?_) (by decide)
  rw [h77]
  exact ⟨rfl, ⟨_, rfl⟩, (g4 _ (fun q q1 q2 => stm_ne _ _ _ q2) (by rw [stm_ne _ _ _ (by decide)]) (by rw [stm_ne _ _ _ (by decide)]) (fun i i0 i1 => stm_ix _ _ _ (by omega)) (g2.st (by decide)) hS2.clears).up he⟩
theorem lyx_MR {x : Mem} (hM : MR x) {a v : Int} (hv : rg v) : MR (lyx x a v) := by
  unfold lyx
  split
  · unfold lyo
    exact (lyl_MR (hM _ _) _ _ _ hM).st hv
  · exact hM
theorem st_lays {G : GG} {e : Int} {m : Mem} (h : INV e m) (he : e < 512) {a b : Int} (ra : rg a) (rb : rg b) : CM G 20 mX11_lays [.ref (G.2.2.2 0), .int (J a), .int (J b)] m (fun r m1 => CM G 20 mX12_lays [.ref (G.2.2.2 76), .int (J a), .int (J b)] m1 (RES e r)) := by
  refine CM.up (s_X11_lays h.gi ra rb ?_) (by decide)
  have hI := h.sg
  have hS := hI.se
  have hp := hS.1.2.2.2.2.2.2
  have e5 := hS.2.2.2.2.2.2
  have hMx := lyx_MR (a := a) hI.1 rb
  have hxq : ∀ q : Nat, q < 2 ∨ 7 < q → lyx (stg m) a b q = stg m q := fun q hq => lyx_ne _ _ _ (by omega)
  by_cases hc : (0 ≤ a ∧ a ≤ 5) ∧ (0 ≤ b ∧ b ≤ 5)
  · have er : lyr (stg m) a b = stg m 7 a := if_pos hc
    have ex : lyx (stg m) a b = lyo (stg m) a b := if_pos hc
    obtain ⟨g1, g2, g3, g4⟩ := h.mut hxq hMx
    have hS2 : SE (stg m) (mdm (ks (lyx (stg m) a b))) := hS.cgz (fun i i0 i1 => by rw [g3 i i1, stg_ne m (by decide) h.2.2.2.1.1])
    have hSE := hS2.lays hc
    rw [← ex] at hSE
    have h77 : ks (lyx (stg m) a b) 77 = stg m 77 := by rw [ks_ne _ (by decide), lyx_ne _ _ _ (by decide)]
    rw [er, udm_ge (hp.1 a hc.1.1 hc.1.2).1]
    have hM2 : MR (lym (mdm (ks (lyx (stg m) a b))) a b) := (g2.st (g2 _ _)).st rb
    have hsl := sat_le (mdm (ks (lyx (stg m) a b))) b 5 0
    refine CM.up (s_X12_lays g1 ra rb (fun b0 b1 => ?_) ?_) (by decide)
    · obtain ⟨t, t0, t1, t2⟩ := hp.2.2 b b0 b1
      exact ⟨t, t0, t1, by rw [h77, ← e5 t t0 t1]; exact t2⟩
    · rw [h77, if_pos hc, if_pos hc, ← e5 a hc.1.1 hc.1.2]
      refine ⟨rfl, ⟨_, rfl⟩, (g4 _ (fun q q1 q2 => ?_) ?_ ?_ (fun i i0 i1 => ?_) hM2 hSE).up he⟩
      · unfold lym; rw [stm_ne _ _ _ q2, stm_ne _ _ _ q2]
      · unfold lym; rw [stm_ne _ _ _ (by decide), stm_ne _ _ _ (by decide)]
      · unfold lym; rw [stm_ne _ _ _ (by decide), stm_ne _ _ _ (by decide)]
      · unfold lym; rw [stm_ix _ _ _ (by omega), stm_ix _ _ _ (by omega)]
  · have er : lyr (stg m) a b = -2 := if_neg hc
    have ex : lyx (stg m) a b = stg m := if_neg hc
    rw [er, ex, udm_lt (by decide)]
    obtain ⟨g1, g2⟩ := hI.err he (r := -2) (by decide)
    refine CM.up (s_X12_lays g1 ra rb (fun b0 b1 => ?_) ?_) (by decide)
    · obtain ⟨t, t0, t1, t2⟩ := hp.2.2 b b0 b1
      exact ⟨t, t0, t1, by rw [ctm_ne _ _ (q := 77) (by decide), ← e5 t t0 t1]; exact t2⟩
    · rw [if_neg hc, if_neg hc]
      exact ⟨rfl, ⟨_, rfl⟩, g2⟩
theorem chx_MR {x : Mem} (hM : MR x) {k w v : Int} (hv : rg v) : MR (chx x k w v) := by
  unfold chx
  (repeat' split) <;> first | exact hM.st hv | exact hM
theorem chx_ne (x : Mem) (k w v : Int) {q : Nat} (h : q ≠ 3) : chx x k w v q = x q := by
  unfold chx
  (repeat' split) <;> first | exact stm_ne _ _ _ h | rfl
theorem st_becomes {G : GG} {e : Int} {m : Mem} (h : INV e m) (he : e < 512) {a b c : Int} (ra : rg a) (rb : rg b) (rc : rg c) : CM G 20 mX11_becomes [.ref (G.2.2.2 0), .int (J a), .int (J b), .int (J c)] m (fun r m1 => CM G 20 mX12_becomes [.ref (G.2.2.2 76), .int (J a), .int (J b), .int (J c)] m1 (RES e r)) := by
  refine CM.up (s_X11_becomes h.gi ra rb rc ?_) (by decide)
  have hI := h.sg
  have hS := hI.se
  have hMx := chx_MR (k := a) (w := b) hI.1 rc
  have hxq : ∀ q : Nat, q < 2 ∨ 7 < q → chx (stg m) a b c q = stg m q := fun q hq => chx_ne _ _ _ _ (by omega)
  have hS1 : SE (stg m) (udm (chx (stg m) a b c) (chr (stg m) a b c)) := hS.cgz (fun i _ _ => by rw [udm_77, chx_ne _ _ _ _ (by decide)])
  obtain ⟨s0, s2, s1⟩ := hS1.becomes a b c
  have fin : ∀ r, (-4 ≤ r ∧ r ≤ -2) → chr (stg m) a b c = r → chx (stg m) a b c = stg m → GM (udm (chx (stg m) a b c) (chr (stg m) a b c)) ∧ INV (e + 1) (rfm (udm (chx (stg m) a b c) (chr (stg m) a b c)) r) := fun r hr q1 q2 => by
    rw [q2, q1, udm_lt (by omega)]
    exact hI.err he hr
  by_cases hb : bcd (udm (chx (stg m) a b c) (chr (stg m) a b c)) a b c
  · by_cases hs : bcs (udm (chx (stg m) a b c) (chr (stg m) a b c)) a b c = -1
    · obtain ⟨t1, t2, t3⟩ := s1 hb hs
      have e1 : udm (chx (stg m) a b c) (chr (stg m) a b c) = ks (chx (stg m) a b c) := udm_ge t2
      obtain ⟨g1, g2, g3, g4⟩ := h.mut hxq hMx
      have hS2 : SE (stg m) (mdm (ks (chx (stg m) a b c))) := hS.cgz (fun i i0 i1 => by rw [g3 i i1, stg_ne m (by decide) h.2.2.2.1.1])
      obtain ⟨v0, v2, v1⟩ := hS2.becomes a b c
      have hSE : SE (chx (stg m) a b c) (stm (mdm (ks (chx (stg m) a b c))) 77 (2 + 5 * a + b) c) := by
        by_cases d1 : bcd (mdm (ks (chx (stg m) a b c))) a b c
        · by_cases d2 : bcs (mdm (ks (chx (stg m) a b c))) a b c = -1
          · exact (v1 d1 d2).2.2
          · have := (v2 d1 d2).1; omega
        · have := (v0 d1).1; omega
      have hbb := hb
      unfold bcd at hbb
      rw [udm_77, chx_ne _ _ _ _ (by decide)] at hbb
      have o1 := hS.1.1
      have e0 := hS.2.1
      rw [e1] at hb hs t1 ⊢
      refine CM.up (s_X12_becomes g1 ra rb rc (fun q => absurd hb q) (fun _ _ => ?_) (fun _ q => absurd hs q)) (by decide)
      exact ⟨by rw [t1], ⟨_, rfl⟩, (g4 _ (fun q q1 q2 => stm_ne _ _ _ q2) (by rw [stm_ne _ _ _ (by decide)]) (by rw [stm_ne _ _ _ (by decide)]) (fun i i0 i1 => stm_ix _ _ _ (by omega)) (g2.st rc) hSE).up he⟩
    · obtain ⟨t1, t2⟩ := s2 hb hs
      obtain ⟨g1, g2⟩ := fin (-3) (by decide) t1 t2
      refine CM.up (s_X12_becomes g1 ra rb rc (fun q => absurd hb q) (fun _ q => absurd q hs) (fun _ _ => ?_)) (by decide)
      exact ⟨by rw [t1], ⟨_, rfl⟩, g2⟩
  · obtain ⟨t1, t2⟩ := s0 hb
    obtain ⟨g1, g2⟩ := fin (-2) (by decide) t1 t2
    refine CM.up (s_X12_becomes g1 ra rb rc (fun _ => ?_) (fun q => absurd q hb) (fun q => absurd q hb)) (by decide)
    exact ⟨by rw [t1], ⟨_, rfl⟩, g2⟩
theorem st_draws {G : GG} {e : Int} {m : Mem} (h : INV e m) (he : e < 512) {a b : Int} (ra : rg a) (rb : rg b) : CM G 20 mX11_draws [.ref (G.2.2.2 0), .int (J a), .int (J b)] m (fun r m1 => CM G 20 mX12_draws [.ref (G.2.2.2 76), .int (J a), .int (J b)] m1 (RES e r)) := by
  refine CM.up (s_X11_draws h.gi ra rb ?_) (by decide)
  have hI := h.sg
  have hS := hI.se
  obtain ⟨w1, w2, w3, w4, w5, w6⟩ := hS.w0
  by_cases hc : (0 ≤ a ∧ a ≤ 999999) ∧ (1 ≤ b ∧ b ≤ 16)
  · have er : adn (stg m) a b = (rds (stg m) a b).2 2 2 - stg m 2 2 := if_pos hc
    have ex : adz (stg m) a b = (rds (stg m) a b).2 := if_pos hc
    have hMx : MR (adz (stg m) a b) := by rw [ex]; exact (rds_I hI.1 w1 hc.1).2.1
    have hxq : ∀ q : Nat, q < 2 ∨ 7 < q → adz (stg m) a b q = stg m q := fun q hq => adz_8 _ _ _ (by omega) (by omega)
    obtain ⟨g1, g2, g3, g4⟩ := h.mut hxq hMx
    have hS2 : SE (stg m) (mdm (ks (adz (stg m) a b))) := hS.cgz (fun i i0 i1 => by rw [g3 i i1, stg_ne m (by decide) h.2.2.2.1.1])
    obtain ⟨u1, u2⟩ := hS2.draws a b
    rw [← ex] at u1 u2
    obtain ⟨v1, v2, v3, v4, v5, v6⟩ := hS2.w0
    have hmono := rds_mono (stg m) a b
    rw [er, udm_ge (by omega)]
    refine CM.up (s_X12_draws g1 ra rb (fun _ y hy => ?_) (fun q => absurd hc q)) (by decide)
    subst hy
    obtain ⟨n1, n2, n3⟩ := drs_ne (mdm (ks (adz (stg m) a b))) a b v3
    refine ⟨by rw [u2, ex], ⟨_, rfl⟩, (g4 _ (fun q q1 q2 => n1 q q1 q2) (n2 1 (by decide)) (n2 4 (by decide)) (fun i i0 i1 => n3 i (by omega)) (drs_I g2 v3 hc.1).1 u1).up he⟩
  · have er : adn (stg m) a b = -2 := if_neg hc
    have ex : adz (stg m) a b = stg m := if_neg hc
    rw [er, ex, udm_lt (by decide)]
    obtain ⟨g1, g2⟩ := hI.err he (r := -2) (by decide)
    refine CM.up (s_X12_draws g1 ra rb (fun q => absurd q hc) (fun _ => ?_)) (by decide)
    exact ⟨rfl, ⟨_, rfl⟩, g2⟩
