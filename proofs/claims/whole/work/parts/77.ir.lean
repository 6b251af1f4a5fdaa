theorem st_span {G : GG} {e : Int} {m : Mem} (h : INV e m) (he : e < 512) {a : Int} (ra : rg a) : CM G 20 mX11_span [.ref (G.2.2.2 0), .int (J a)] m (fun r m1 => CM G 20 mX12_span [.ref (G.2.2.2 76), .int (J a)] m1 (RES e r)) := by
  refine CM.up (s_X11_span h.gi ra ?_) (by decide)
  by_cases hc : 0 ≤ a ∧ a ≤ 3
  · have ev : (if 0 ≤ a ∧ a ≤ 3 then spn m (if a % 2 = 0 then 1 else 0) a else -2) = spn m (if a % 2 = 0 then 1 else 0) a := if_pos hc
    rw [ev, if_pos hc]
    refine CM.up (s_X12_span h.gm ra ?_) (by decide)
    have ev2 : (if 0 ≤ a ∧ a ≤ 3 then (if a < 2 then (zp m a).1 else (zp m a).2) else -2) = if a < 2 then (zp m a).1 else (zp m a).2 := if_pos hc
    rw [ev2, if_pos hc, ← q_span h.eq0 h.2.1]
    exact ⟨rfl, ⟨_, rfl⟩, h.up he⟩
  · have ev : (if 0 ≤ a ∧ a ≤ 3 then spn m (if a % 2 = 0 then 1 else 0) a else -2) = -2 := if_neg hc
    rw [ev, if_neg hc]
    obtain ⟨g1, g2⟩ := h.err he (r := -2) (by decide)
    refine CM.up (s_X12_span g1 ra ?_) (by decide)
    have ev2 : (if 0 ≤ a ∧ a ≤ 3 then (if a < 2 then (zp (ctm m (-2)) a).1 else (zp (ctm m (-2)) a).2) else -2) = -2 := if_neg hc
    rw [ev2, if_neg hc]
    exact ⟨rfl, ⟨_, rfl⟩, g2⟩
theorem INV.ipm {e : Int} {m : Mem} (h : INV e m) {w : Int} (hw : 0 ≤ w ∧ w ≤ 16) : INV e (ipm m w) :=
  h.scr (ipm_I h.1 h.gi.2.1.2.1 hw).2 (fun q hq => ipm_ne m w (by omega)) (by unfold TRL; rw [ipm_ne m w (by decide)]; exact h.2.2.2.2.2.1)
theorem st_wordOf {G : GG} {e : Int} {m : Mem} (h : INV e m) (he : e < 512) {a b : Int} (ra : rg a) (rb : rg b) : CM G 20 mX11_wordOf [.ref (G.2.2.2 0), .int (J a), .int (J b)] m (fun r m1 => CM G 20 mX12_wordOf [.ref (G.2.2.2 76), .int (J a), .int (J b)] m1 (RES e r)) := by
  refine CM.up (s_X11_wordOf h.gi ra rb ?_) (by decide)
  have e1 := h.eq0.2.1
  by_cases hc : (0 ≤ a ∧ a < m 5 1) ∧ (0 ≤ b ∧ b ≤ 6)
  · rw [if_pos hc, if_pos hc]
    have hI := h.ipm (w := 16) (by decide)
    have hS : SE m (ipm m 16) := h.se.cgz (fun i _ _ => by rw [ipm_ne m 16 (by decide)])
    refine CM.up (s_X12_wordOf hI.gm ra rb ?_) (by decide)
    have e2 : ipm m 16 77 1 = m 5 1 := by rw [ipm_ne m 16 (by decide), e1]
    rw [e2, if_pos hc, if_pos hc, ← q_wordOf hS hc.1 hc.2]
    exact ⟨rfl, ⟨_, rfl⟩, hI.up he⟩
  · rw [if_neg hc, if_neg hc]
    obtain ⟨g1, g2⟩ := h.err he (r := -2) (by decide)
    refine CM.up (s_X12_wordOf g1 ra rb ?_) (by decide)
    have e2 : ctm m (-2) 77 1 = m 5 1 := by rw [ctm_ne _ _ (by decide), e1]
    rw [e2, if_neg hc, if_neg hc]
    exact ⟨rfl, ⟨_, rfl⟩, g2⟩
theorem st_at {G : GG} {e : Int} {m : Mem} (h : INV e m) (he : e < 512) {a b : Int} (ra : rg a) (rb : rg b) : CM G 20 mX11_at [.ref (G.2.2.2 0), .int (J a), .int (J b)] m (fun r m1 => CM G 20 mX12_at [.ref (G.2.2.2 76), .int (J a), .int (J b)] m1 (RES e r)) := by
  refine CM.up (s_X11_at h.gi ra rb ?_) (by decide)
  by_cases hc : (0 ≤ a ∧ a ≤ 5) ∧ (0 ≤ b ∧ b ≤ 16)
  · rw [if_pos hc, if_pos hc]
    have hI := h.ipm (w := b) hc.2
    have hS : SE m (ipm m b) := h.se.cgz (fun i _ _ => by rw [ipm_ne m b (by decide)])
    refine CM.up (s_X12_at hI.gm ra rb ?_) (by decide)
    rw [if_pos hc, if_pos hc, ← q_at hS hc.1 hc.2.1]
    exact ⟨rfl, ⟨_, rfl⟩, hI.up he⟩
  · rw [if_neg hc, if_neg hc]
    obtain ⟨g1, g2⟩ := h.err he (r := -2) (by decide)
    refine CM.up (s_X12_at g1 ra rb ?_) (by decide)
    rw [if_neg hc, if_neg hc]
    exact ⟨rfl, ⟨_, rfl⟩, g2⟩
theorem st_lay {G : GG} {e : Int} {m : Mem} (h : INV e m) (he : e < 512) {a : Int} (ra : rg a) : CM G 20 mX11_lay [.ref (G.2.2.2 0), .int (J a)] m (fun r m1 => CM G 20 mX12_lay [.ref (G.2.2.2 76), .int (J a)] m1 (RES e r)) := by
  refine CM.up (s_X11_lay h.gi ra ?_) (by decide)
  by_cases hc : 0 ≤ a ∧ a ≤ 5
  · rw [if_pos hc, if_pos hc]
    refine CM.up (s_X12_lay h.gm ra ?_) (by decide)
    rw [if_pos hc, if_pos hc, ← h.eq0.2.2.2.2.2 a hc.1 hc.2]
    exact ⟨rfl, ⟨_, rfl⟩, h.up he⟩
  · rw [if_neg hc, if_neg hc]
    obtain ⟨g1, g2⟩ := h.err he (r := -2) (by decide)
    refine CM.up (s_X12_lay g1 ra ?_) (by decide)
    rw [if_neg hc, if_neg hc]
    exact ⟨rfl, ⟨_, rfl⟩, g2⟩
theorem fgr_tlm {e : Int} {m : Mem} (h : INV e m) {x : Mem} (hq : ∀ q : Nat, q ≤ 8 ∨ q = 52 ∨ 75 ≤ q → x q = m q) {w : Int} (hw : 0 ≤ w ∧ w ≤ 10) : fgr x w = tlm x w := by
  obtain ⟨-, -, a3, a4, a5, -, a7⟩ := h
  have hE := (eqm_0 m).mp a3
  unfold fgr tlm
  rw [hq 75 (by omega), hq 52 (by omega), hq 2 (by omega), hq 5 (by omega), hq 8 (by omega), hq 4 (by omega), hq 78 (by omega), hq 76 (by omega), hq 77 (by omega)]
  rcases (by omega : w = 0 ∨ w = 1 ∨ w = 2 ∨ w = 3 ∨ w = 4 ∨ w = 5 ∨ w = 6 ∨ w = 7 ∨ w = 8 ∨ w = 9 ∨ w = 10) with rfl | rfl | rfl | rfl | rfl | rfl | rfl | rfl | rfl | rfl | rfl
  · exact (a7.2 0 (by omega) (by omega)).1.symm
  · exact (a7.2 1 (by omega) (by omega)).1.symm
  · exact (a7.2 2 (by omega) (by omega)).1.symm
  · exact a5.2.1.symm
  · exact hE.1
  · exact hE.2.1
  · exact a4.2.1.symm
  · exact hE.2.2.2.2.1 0 (by omega) (by omega)
  · exact hE.2.2.2.2.1 1 (by omega) (by omega)
  · exact hE.2.2.2.2.1 2 (by omega) (by omega)
  · exact hE.2.2.2.2.1 3 (by omega) (by omega)
theorem st_told {G : GG} {e : Int} {m : Mem} (h : INV e m) (he : e < 512) {a : Int} (ra : rg a) : CM G 20 mX11_told [.ref (G.2.2.2 0), .int (J a)] m (fun r m1 => CM G 20 mX12_told [.ref (G.2.2.2 76), .int (J a)] m1 (RES e r)) := by
  refine CM.up (s_X11_told h.gi ra ?_) (by decide)
  by_cases hc : 0 ≤ a ∧ a ≤ 10
  · rw [if_pos hc, if_pos hc]
    refine CM.up (s_X12_told h.gm ra ?_) (by decide)
    rw [if_pos hc, if_pos hc, ← fgr_tlm h (fun _ _ => rfl) hc]
    exact ⟨rfl, ⟨_, rfl⟩, h.up he⟩
  · rw [if_neg hc, if_neg hc]
    obtain ⟨g1, g2⟩ := h.err he (r := -2) (by decide)
    refine CM.up (s_X12_told g1 ra ?_) (by decide)
    rw [if_neg hc, if_neg hc]
    exact ⟨rfl, ⟨_, rfl⟩, g2⟩
/-! all -/
theorem lyw_80 (z : Mem) {s : Int} (s0 : 0 ≤ s) (s1 : s ≤ 5) : lyw z 80 s = z 77 (134 + s) := by
  have h := it_Ij (f := fun s (x : Mem) => stm x 80 s (x 77 (134 + s))) (fun j x => LWI z j x) 6 0 z (fun i y _ _ hy => lw_I hy) ⟨rfl, fun s s0 s1 => by omega⟩
  exact h.2 s s0 (by omega)
theorem q_ple {x z Y : Mem} (h : SE x z) (h5 : Y 65 = fwm x 65) (h4 : Y 64 1 = fwm x 64 1) (h7 : Y 7 = x 7) : ple Y = way_ (lyw z) := by
  have hE : SE x (lyw z) := h.cgz (fun i _ _ => by rw [lyw_ne _ (by decide)])
  rw [q_way hE (p := x 7) (fun s s0 s1 => by rw [lyw_80 z s0 s1]; exact h.2.2.2.2.2.2 s s0 s1), ple_plen, h5, h4, h7]
theorem exm_se {x z : Mem} (h : SE x z) : SE (ckm (ipm x 16)) z ∧ SE (exm x) z := by
  have k1 : ∀ q : Nat, q < 57 → ckm (ipm x 16) q = x q := fun q hq => by rw [ckm_ne _ (by omega), ipm_ne _ _ (by omega)]
  have k2 : ∀ q : Nat, q < 57 → exm x q = x q := fun q hq => exm_ne _ (by omega)
  exact ⟨h.cgx (by rw [k1 2 (by decide)]) (fun i _ => by rw [k1 3 (by decide)]) (k1 4 (by decide)) (by rw [k1 5 (by decide)]) (k1 6 (by decide)) (k1 7 (by decide)), h.cgx (by rw [k2 2 (by decide)]) (fun i _ => by rw [k2 3 (by decide)]) (k2 4 (by decide)) (by rw [k2 5 (by decide)]) (k2 6 (by decide)) (k2 7 (by decide))⟩
theorem q_all {x z : Mem} (h : SE x z) (hM : MR x) {a : Int} (ha : 0 ≤ a ∧ a ≤ 6) : spr (exm x) a = alr z a := by
  obtain ⟨s1, s2⟩ := exm_se h
  have hy : SW x (ipm x 16) := (ipm_I hM (show SN x from h.1.2.1) (by decide)).1
  obtain ⟨c1, c2⟩ := q_clauses h
  obtain ⟨d1, d2⟩ := q_order h hy
  have e1 := h.2.2.1
  have f57 : exm x 57 = ipm x 16 57 := by unfold exm; rw [fwm_ne _ (by decide) (by decide), ckm_ne _ (by decide)]
  have f63 : exm x 63 = ckm (ipm x 16) 63 := by unfold exm; rw [fwm_ne _ (by decide) (by decide)]
  have f5 : exm x 5 = x 5 := exm_ne _ (by decide)
  unfold spr alr
  rw [f57, f63, f5, c1, c2, d1, d2]
  rcases (by omega : a = 0 ∨ a = 1 ∨ a = 2 ∨ a = 3 ∨ a = 4 ∨ a = 5 ∨ a = 6) with rfl | rfl | rfl | rfl | rfl | rfl | rfl
  · exact e1
  · rfl
  · rfl
  · rfl
  · rfl
  · exact q_ple s1 rfl rfl (by unfold exm; rw [fwm_ne _ (q := 7) (by decide) (by decide)])
  · exact pss_eq s1
theorem exm_MR {m : Mem} (hM : MR m) (hs : SN m) : MR (exm m) := by
  obtain ⟨i1, i2⟩ := ipm_I hM hs (w := 16) (by decide)
  obtain ⟨j1, j2⟩ := ckm_I i2 (i1.sn hs)
  unfold exm
  exact (fwm_I j2 (j1.sn (i1.sn hs))).2.1
theorem INV.exm {e : Int} {m : Mem} (h : INV e m) : INV e (exm m) :=
  h.scr (exm_MR h.1 h.gi.2.1.2.1) (fun q hq => exm_ne m (by omega)) (by unfold TRL; rw [exm_ne m (by decide)]; exact h.2.2.2.2.2.1)
theorem st_all {G : GG} {e : Int} {m : Mem} (h : INV e m) (he : e < 512) {a : Int} (ra : rg a) : CM G 20 mX11_all [.ref (G.2.2.2 0), .int (J a)] m (fun r m1 => CM G 20 mX12_all [.ref (G.2.2.2 76), .int (J a)] m1 (RES e r)) := by
  refine CM.up (s_X11_all h.gi ra ?_) (by decide)
  by_cases hc : 0 ≤ a ∧ a ≤ 6
  · rw [if_pos hc, if_pos hc]
    have hI := h.exm
    have hS : SE m (exm m) := h.se.cgz (fun i _ _ => by rw [exm_ne m (by decide)])
    have hg := alx_in hI.gm hc
    refine CM.up (s_X12_all hI.gm ra ?_) (by decide)
    rw [← q_all hS h.1 hc]
    refine ⟨rfl, ⟨_, rfl⟩, (hI.scm hg.1.1 (fun q hq => ?_)).up he⟩
    unfold alx
    split
    · exact lyw_ne _ (by omega)
    · first | rfl | (rw [if_pos hc])
  · rw [if_neg hc, if_neg hc]
    obtain ⟨g1, g2⟩ := h.err he (r := -2) (by decide)
    refine CM.up (s_X12_all g1 ra ?_) (by decide)
    have e1 : alr (ctm m (-2)) a = -2 := by unfold alr; rw [if_neg (by omega), if_neg (by omega), if_neg (by omega), if_neg (by omega), if_neg (by omega), if_neg (by omega), if_neg (by omega)]
    have e2 : alx (ctm m (-2)) a = rfm (ctm m (-2)) (-2) := by unfold alx; rw [if_neg (by omega), if_neg hc]
    rw [e1, e2]
    exact ⟨rfl, ⟨_, rfl⟩, g2⟩
/-! best, settles -/
theorem bwr_ne (k : Int) (x : Int × Mem) {q : Nat} (h0 : q ≠ 80) (h1 : q ≠ 81) : (bwr k x).2 q = x.2 q := by
  unfold bwr bwf
  split
  · show cpb (trm k x.2) q = _
    rw [cpb_ne _ h1, trm_ne _ _ h0]
  · exact trm_ne _ _ h0
theorem bwm_ne (m : Mem) {q : Nat} (h0 : q ≠ 80) (h1 : q ≠ 81) : (bwm m).2 q = m q := by
  unfold bwm
  rw [it_82 (f := fun k x => bwr k x) (q := q) (fun i x => bwr_ne i x h0 h1) 720 0 (-1, m)]
theorem fbm_MR {m : Mem} (hM : MR m) (hs : SN m) (ht : TRL m) : PFI (fbm m) := by
  obtain ⟨f1, f2, f3, f4⟩ := fwm_I hM hs
  unfold fbm
  refine arm_I f2 (by have := hs.2; omega) f4 ?_
  unfold TRL
  rw [fwm_ne _ (by decide) (by decide)]
  exact ht
theorem INV.fbm {e : Int} {m : Mem} (h : INV e m) : INV e (fbm m) := by
  have hp := fbm_MR h.1 h.gi.2.1.2.1 h.2.2.2.2.2.1
  exact h.scr hp.1 (fun q hq => fbm_ne m (by omega)) hp.2.1
theorem st_best {G : GG} {e : Int} {m : Mem} (h : INV e m) (he : e < 512) {a : Int} (ra : rg a) : CM G 20 mX11_best [.ref (G.2.2.2 0), .int (J a)] m (fun r m1 => CM G 20 mX12_best [.ref (G.2.2.2 76), .int (J a)] m1 (RES e r)) := by
  refine CM.up (s_X11_best h.gi ra ?_) (by decide)
  by_cases hc : -1 ≤ a ∧ a ≤ 5
  · have ev : (if -1 ≤ a ∧ a ≤ 5 then (if a = -1 then fbm m 66 3 else fbm m 69 a) else -2) = if a = -1 then fbm m 66 3 else fbm m 69 a := if_pos hc
    have ev2 : (if -1 ≤ a ∧ a ≤ 5 then fbm m else ctm m (-2)) = fbm m := if_pos hc
    rw [ev, ev2]
    have hI := h.fbm
    have hS : SE m (fbm m) := h.se.cgz (fun i _ _ => by rw [fbm_ne m (by decide)])
    obtain ⟨b1, b2, b3, b4, b5⟩ := q_best hS h.1 hI.1 h.2.2.2.2.2.1
    obtain ⟨c1, c2⟩ := hS.gm
    refine CM.up (s_X12_best hI.gm ra (fun _ r hr => ?_) (fun q => absurd hc q)) (by decide)
    have hBM := (bwm_I hI.1 c1 c2).2.1
    have hBn : ∀ q : Nat, q ≠ 80 → q ≠ 81 → (bwm (fbm m)).2 q = fbm m q := fun q q1 q2 => bwm_ne _ q1 q2
    rw [← hr] at b1 b2 hBM hBn
    have hv : (if a = -1 then r.1 else r.2 81 a) = (if a = -1 then fbm m 66 3 else fbm m 69 a) := by
      by_cases ha : a = -1
      · rw [if_pos ha, if_pos ha, b1]
      · rw [if_neg ha, if_neg ha, b2 a (by omega) hc.2]
    exact ⟨by rw [hv], ⟨_, rfl⟩, (hI.scm hBM (fun q hq => hBn q (by omega) (by omega))).up he⟩
  · have ev : (if -1 ≤ a ∧ a ≤ 5 then (if a = -1 then fbm m 66 3 else fbm m 69 a) else -2) = -2 := if_neg hc
    have ev2 : (if -1 ≤ a ∧ a ≤ 5 then fbm m else ctm m (-2)) = ctm m (-2) := if_neg hc
    rw [ev, ev2]
    obtain ⟨g1, g2⟩ := h.err he (r := -2) (by decide)
    refine CM.up (s_X12_best g1 ra (fun q => absurd q hc) (fun _ => ?_)) (by decide)
    exact ⟨rfl, ⟨_, rfl⟩, g2⟩
theorem stb_77 (y : Mem) : (∀ i, i < 134 ∨ 140 ≤ i → stb y 77 i = y 77 i) ∧ (∀ s, 0 ≤ s → s ≤ 5 → stb y 77 (134 + s) = y 81 s) ∧ (∀ q : Nat, q ≠ 77 → stb y q = y q) := by
  have h := it_Ij (f := fun s (x : Mem) => stm x 77 (134 + s) (x 81 s)) (fun n x => x 81 = y 81 ∧ (∀ i, i < 134 ∨ 140 ≤ i → x 77 i = y 77 i) ∧ ∀ s, 0 ≤ s → s < n → x 77 (134 + s) = y 81 s) 6 0 y (fun n x c d hx => by
    refine ⟨(stm_ne _ _ _ (by decide)).trans hx.1, fun i hi => (stm_ix _ _ _ (by omega)).trans (hx.2.1 i hi), fun s s0 s1 => ?_⟩
    try dsimp only
    rw [stm_at, hx.1]
    by_cases hs : s = n
    · rw [hs, if_pos rfl]
    · rw [if_neg (by omega)]; exact hx.2.2 s s0 (by omega)) ⟨rfl, fun _ _ => rfl, fun s s0 s1 => by omega⟩
  exact ⟨h.2.1, fun s s0 s1 => h.2.2 s s0 (by omega), fun q hq => it_8 (fun i x => stm_ne _ _ _ hq) _ _ _⟩
theorem st_settles {G : GG} {e : Int} {m : Mem} (h : INV e m) (he : e < 512) : CM G 20 mX11_settles [.ref (G.2.2.2 0)] m (fun r m1 => CM G 20 mX12_settles [.ref (G.2.2.2 76)] m1 (RES e r)) := by
  have hI := h.sg
  have hpx := h.2.2.2.1.1
  have hs := h.2.2.2.1.st
  have hF := hI.fbm
  obtain ⟨b1, b2, b3, b4, b5⟩ := q_best hI.se hI.1 hI.1 hI.2.2.2.2.2.1
  have hpl := fwm_pl hI.se hI.1
  have hple : ple (fbm (stg m)) ≤ 400 := by
    have q := ple_le (m := fwm (stg m)) hpl.1 hpl.2 (by unfold POS; rw [fwm_ne _ (by decide) (by decide)]; exact hI.se.1.2.2.2.2.2.2.1)
    have e2 : ple (fbm (stg m)) = ple (fwm (stg m)) := by
      rw [ple_plen, ple_plen]
      unfold fbm
      rw [arm_ne _ (by decide), arm_ne _ (by decide), arm_ne _ (by decide)]
    rw [e2]; exact q.2
  refine CM.up (s_X11_settles h.gi (by omega) ?_) (by decide)
  have hx7 : ∀ s, 0 ≤ s → s ≤ 5 → stx (fbm (stg m)) 7 s = fbm (stg m) 69 s := fun s s0 s1 => by
    unfold stx
    rw [sr_eq]
    unfold cpr
    rw [if_pos (by omega), show 0 + (s - 0) = s by omega]
  have hxq : ∀ q : Nat, q ≠ 7 → (q < 64 ∨ 69 < q) → stx (fbm (stg m)) q = stg m q := fun q q1 q2 => by rw [stx_ne _ q1, fbm_ne _ q2]
  have hMx : MR (stx (fbm (stg m))) := by unfold stx; exact hF.1.cp
  have e1 : ∀ p : Nat, p = 8 ∨ 52 ≤ p → (p < 64 ∨ 69 < p) → stx (fbm (stg m)) p = m p := fun p hp hp2 => by rw [hxq p (by omega) hp2, stg_ne m (by omega) hpx]
  have hPX : PX (stx (fbm (stg m))) := px_of (e1 8 (by omega) (by omega)) hpx
  have htr : TRL (stx (fbm (stg m))) := by unfold TRL; rw [stx_ne _ (by decide)]; exact hF.2.2.2.2.2.1
  generalize stx (fbm (stg m)) = x at hx7 hxq hMx e1 hPX htr ⊢
  have k1 : ∀ p : Nat, 52 ≤ p → (p < 64 ∨ 69 < p) → ks x p = m p := fun p hp hp2 => by rw [ks_ne _ (by omega), e1 p (by omega) hp2]
  have hMk := ks_MR hMx hPX
  have hg : GM (ks x) := h.gm.cg hMk (k1 76 (by decide) (by decide)) (k1 77 (by decide) (by decide)) (k1 78 (by decide) (by decide))
  have hs2 : ST (ks x) := hg.2.2.1
  have hc := mdm_cg (m := m) (z := ks x) hs (by rw [k1 76 (by decide) (by decide)]) (fun i _ => by rw [k1 77 (by decide) (by decide)])
  have hMm := mdm_MR hMk hs2
  have hSl : SE (stg m) (lyw (mdm (ks x))) := hI.se.cgz (fun i i0 i1 => by rw [lyw_ne _ (by decide), hc.2 i (by omega), mdm_lo hs i1, stg_ne m (by decide) hpx])
  have hSm : SE (stg m) (mdm (ks x)) := hI.se.cgz (fun i i0 i1 => by rw [hc.2 i (by omega), mdm_lo hs i1, stg_ne m (by decide) hpx])
  have hMl : MR (lyw (mdm (ks x))) := lyw_MR hMm
  obtain ⟨d1, d2, d3, d4, d5⟩ := q_best hSl hI.1 hMl hI.2.2.2.2.2.1
  obtain ⟨gc, gw⟩ := hSl.gm
  have hway : way_ (lyw (mdm (ks x))) = ple (fbm (stg m)) := by
    refine (q_ple hSm (Y := fbm (stg m)) ?_ ?_ ?_).symm
    · unfold fbm; rw [arm_ne _ (by decide)]
    · unfold fbm; rw [arm_ne _ (by decide)]
    · exact fbm_ne _ (by decide)
  have hB := (bwm_I hMl gc gw).2.1
  have hBn : ∀ q : Nat, q ≠ 80 → q ≠ 81 → (bwm (lyw (mdm (ks x)))).2 q = mdm (ks x) q := fun q q1 q2 => by rw [bwm_ne _ q1 q2, lyw_ne _ q1]
  refine CM.up (s_X12_settles hg ?_) (by decide)
  rw [hway, ← d1]
  refine ⟨rfl, ⟨_, rfl⟩, ?_⟩
  generalize (bwm (lyw (mdm (ks x)))).2 = B at d2 hB hBn ⊢
  obtain ⟨t1, t2, t3⟩ := stb_77 B
  have hMy : MR (stb B) := by unfold stb; exact MR_it (fun i y hy => hy.st (hy _ _)) _ _ _ hB
  have hSE : SE x (stb B) := by
    have q0 : SE (stg m) B := hSm.cgz (fun i _ _ => by rw [hBn 77 (by decide) (by decide)])
    have q1 : SE (sr (stg m) 7 (x 7)) (stb B) := q0.pos (fun q hq => sr_ne _ _ hq) (fun i hi => t1 i (Or.inl hi)) (fun s s0 s1 => by rw [sr_eq, hx7 s s0 s1, d2 s s0 s1, t2 s s0 s1]) (by rw [sr_eq]; exact d3.cg hx7)
    have hrow : ∀ q : Nat, q < 64 → x q = sr (stg m) 7 (x 7) q := fun q hq => by
      by_cases h7 : q = 7
      · rw [h7, sr_eq]
      · rw [sr_ne _ _ h7]; exact hxq q h7 (by omega)
    exact q1.cgx (by rw [hrow 2 (by decide)]) (fun i _ => by rw [hrow 3 (by decide)]) (hrow 4 (by decide)) (by rw [hrow 5 (by decide)]) (hrow 6 (by decide)) (hrow 7 (by decide))
  have hfin : INV e (stb B) := by
    refine h.push (x := x) (e1 8 (by omega) (by omega)) (fun q q1 q2 => hxq q (by omega) (by omega)) (by rw [e1 52 (by omega) (by omega)]) (e1 53 (by omega) (by omega)) (e1 75 (by omega) (by omega)) htr (fun q q1 => ?_) ?_ ?_ (fun i i0 i1 => ?_) ?_ ?_ hMy hSE
    · rw [t3 q (by omega), hBn q (by omega) (by omega), mdm_ne _ (by omega) (by omega)]
    · rw [t3 76 (by decide), hBn 76 (by decide) (by decide)]; exact hc.1
    · rw [t3 76 (by decide), hBn 76 (by decide) (by decide), mdm_76 _ (by decide), k1 76 (by decide) (by decide)]
    · rw [t1 i (Or.inr i0), hBn 77 (by decide) (by decide)]; exact hc.2 i i1
    · rw [t3 78 (by decide), hBn 78 (by decide) (by decide), mdm_ne _ (by decide) (by decide), k1 78 (by decide) (by decide)]
    · rw [t3 79 (by decide), hBn 79 (by decide) (by decide), mdm_ne _ (by decide) (by decide), k1 79 (by decide) (by decide)]
  exact hfin.up he
