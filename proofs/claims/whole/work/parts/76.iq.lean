/-! ===== questions ===== -/
theorem st_of {G : GG} {e : Int} {m : Mem} (h : INV e m) (he : e < 512) {a b : Int} (ra : rg a) (rb : rg b) : CM G 20 mX11_of [.ref (G.2.2.2 0), .int (J a), .int (J b)] m (fun r m1 => CM G 20 mX12_of [.ref (G.2.2.2 76), .int (J a), .int (J b)] m1 (RES e r)) := by
  refine CM.up (s_X11_of h.gi ra rb ?_) (by decide)
  have hE := h.eq0
  have e0 := hE.1
  by_cases hc : (0 ≤ a ∧ a < m 2 2) ∧ (0 ≤ b ∧ b ≤ 5)
  · rw [if_pos hc, if_pos hc]
    refine CM.up (s_X12_of h.gm ra rb ?_) (by decide)
    rw [← e0, if_pos hc, if_pos hc]
    have hv : (if b < 5 then m 77 (2 + 5 * a + b) else wdw m a) = (if b = 5 then co m a else m 3 (a * 5 + b)) := by
      by_cases h5 : b = 5
      · rw [if_pos h5, if_neg (by omega)]; exact (q_co hE a).symm
      · rw [if_neg h5, if_pos (by omega)]; exact (hE.2.2.1 a b hc.1.1 hc.1.2 hc.2.1 (by omega)).symm
    exact ⟨by rw [hv], ⟨_, rfl⟩, h.up he⟩
  · rw [if_neg hc, if_neg hc]
    obtain ⟨g1, g2⟩ := h.err he (r := -2) (by decide)
    refine CM.up (s_X12_of g1 ra rb ?_) (by decide)
    rw [ctm_ne _ _ (q := 77) (by decide), ← e0, if_neg hc, if_neg hc]
    exact ⟨rfl, ⟨_, rfl⟩, g2⟩
theorem st_apart {G : GG} {e : Int} {m : Mem} (h : INV e m) (he : e < 512) {a b c : Int} (ra : rg a) (rb : rg b) (rc : rg c) : CM G 20 mX11_apart [.ref (G.2.2.2 0), .int (J a), .int (J b), .int (J c)] m (fun r m1 => CM G 20 mX12_apart [.ref (G.2.2.2 76), .int (J a), .int (J b), .int (J c)] m1 (RES e r)) := by
  refine CM.up (s_X11_apart h.gi ra rb rc ?_) (by decide)
  have hE := h.eq0
  have e0 := hE.1
  by_cases hc : ((0 ≤ a ∧ a < m 2 2) ∧ (0 ≤ b ∧ b < m 2 2)) ∧ (0 ≤ c ∧ c ≤ 4)
  · rw [if_pos hc, if_pos hc]
    refine CM.up (s_X12_apart h.gm ra rb rc ?_) (by decide)
    rw [← e0, if_pos hc, if_pos hc, ← q_ds hE hc.1.1.1 hc.1.1.2 hc.1.2.1 hc.1.2.2]
    have hv : (if c = 4 then ds m a b else gp c (m 77 (2 + 5 * a + c)) (m 77 (2 + 5 * b + c))) = (if c = 4 then ds m a b else gp c (m 3 (a * 5 + c)) (m 3 (b * 5 + c))) := by
      by_cases h4 : c = 4
      · rw [if_pos h4, if_pos h4]
      · rw [if_neg h4, if_neg h4, hE.2.2.1 a c hc.1.1.1 hc.1.1.2 hc.2.1 (by omega), hE.2.2.1 b c hc.1.2.1 hc.1.2.2 hc.2.1 (by omega)]
    exact ⟨by rw [hv], ⟨_, rfl⟩, h.up he⟩
  · rw [if_neg hc, if_neg hc]
    obtain ⟨g1, g2⟩ := h.err he (r := -2) (by decide)
    refine CM.up (s_X12_apart g1 ra rb rc ?_) (by decide)
    rw [ctm_ne _ _ (q := 77) (by decide), ← e0, if_neg hc, if_neg hc]
    exact ⟨rfl, ⟨_, rfl⟩, g2⟩
theorem st_look {G : GG} {e : Int} {m : Mem} (h : INV e m) (he : e < 512) {a b c d : Int} (ra : rg a) (rb : rg b) (rc : rg c) (rd : rg d) : CM G 20 mX11_look [.ref (G.2.2.2 0), .int (J a), .int (J b), .int (J c), .int (J d)] m (fun r m1 => CM G 20 mX12_look [.ref (G.2.2.2 76), .int (J a), .int (J b), .int (J c), .int (J d)] m1 (RES e r)) := by
  refine CM.up (s_X11_look h.gi ra rb rc rd ?_) (by decide)
  by_cases hc : (-1 ≤ a ∧ a ≤ 7) ∧ (-1 ≤ b ∧ b ≤ 7) ∧ (-1 ≤ c ∧ c ≤ 7) ∧ (-1 ≤ d ∧ d ≤ 7)
  · rw [if_pos hc, if_pos hc]
    have hI := h.ask ra rb rc rd
    obtain ⟨h1, h2, h3, h4⟩ := askm_hi m a b c d
    refine CM.up (s_X12_look hI.gm ra rb rc rd ?_) (by decide)
    rw [if_pos hc, if_pos hc, ← q_look hI.eq0 h1 h2 h3 h4]
    exact ⟨rfl, ⟨_, rfl⟩, hI.up he⟩
  · rw [if_neg hc, if_neg hc]
    obtain ⟨g1, g2⟩ := h.err he (r := -2) (by decide)
    refine CM.up (s_X12_look g1 ra rb rc rd ?_) (by decide)
    rw [if_neg hc, if_neg hc]
    exact ⟨rfl, ⟨_, rfl⟩, g2⟩
theorem st_nearest {G : GG} {e : Int} {m : Mem} (h : INV e m) (he : e < 512) {a b c d : Int} (ra : rg a) (rb : rg b) (rc : rg c) (rd : rg d) : CM G 20 mX11_nearest [.ref (G.2.2.2 0), .int (J a), .int (J b), .int (J c), .int (J d)] m (fun r m1 => CM G 20 mX12_nearest [.ref (G.2.2.2 76), .int (J a), .int (J b), .int (J c), .int (J d)] m1 (RES e r)) := by
  refine CM.up (s_X11_nearest h.gi ra rb rc rd ?_) (by decide)
  by_cases hc : (0 ≤ a ∧ a ≤ 7) ∧ (0 ≤ b ∧ b ≤ 7) ∧ (0 ≤ c ∧ c ≤ 7) ∧ (0 ≤ d ∧ d ≤ 7)
  · rw [if_pos hc, if_pos hc]
    have hI := h.ask ra rb rc rd
    obtain ⟨h1, h2, h3, h4⟩ := askm_hi m a b c d
    refine CM.up (s_X12_nearest hI.gm ra rb rc rd ?_) (by decide)
    rw [if_pos hc, if_pos hc, ← q_nearest hI.eq0 hI.2.1 (ask_RV hc.1 hc.2.1 hc.2.2.1 hc.2.2.2) h1 h2 h3 h4]
    exact ⟨rfl, ⟨_, rfl⟩, hI.up he⟩
  · rw [if_neg hc, if_neg hc]
    obtain ⟨g1, g2⟩ := h.err he (r := -2) (by decide)
    refine CM.up (s_X12_nearest g1 ra rb rc rd ?_) (by decide)
    rw [if_neg hc, if_neg hc]
    exact ⟨rfl, ⟨_, rfl⟩, g2⟩
theorem st_near {G : GG} {e : Int} {m : Mem} (h : INV e m) (he : e < 512) {a b : Int} (ra : rg a) (rb : rg b) : CM G 20 mX11_near [.ref (G.2.2.2 0), .int (J a), .int (J b)] m (fun r m1 => CM G 20 mX12_near [.ref (G.2.2.2 76), .int (J a), .int (J b)] m1 (RES e r)) := by
  refine CM.up (s_X11_near h.gi ra rb ?_) (by decide)
  have hE := h.eq0
  have e0 := hE.1
  by_cases hc : (0 ≤ a ∧ a < m 2 2) ∧ (0 ≤ b ∧ b ≤ 99)
  · rw [if_pos hc, if_pos hc]
    refine CM.up (s_X12_near h.gm ra rb ?_) (by decide)
    rw [← e0, if_pos hc, if_pos hc, ← q_nb hE hc.1.1 hc.1.2]
    exact ⟨rfl, ⟨_, rfl⟩, h.up he⟩
  · rw [if_neg hc, if_neg hc]
    obtain ⟨g1, g2⟩ := h.err he (r := -2) (by decide)
    refine CM.up (s_X12_near g1 ra rb ?_) (by decide)
    rw [ctm_ne _ _ (q := 77) (by decide), ← e0, if_neg hc, if_neg hc]
    exact ⟨rfl, ⟨_, rfl⟩, g2⟩
theorem st_sorts {G : GG} {e : Int} {m : Mem} (h : INV e m) (he : e < 512) {a : Int} (ra : rg a) : CM G 20 mX11_sorts [.ref (G.2.2.2 0), .int (J a)] m (fun r m1 => CM G 20 mX12_sorts [.ref (G.2.2.2 76), .int (J a)] m1 (RES e r)) := by
  refine CM.up (s_X11_sorts h.gi ra ?_) (by decide)
  by_cases hc : 0 ≤ a ∧ a ≤ 3
  · rw [if_pos hc, if_pos hc]
    refine CM.up (s_X12_sorts h.gm ra ?_) (by decide)
    rw [if_pos hc, if_pos hc, ← q_cs h.eq0]
    exact ⟨rfl, ⟨_, rfl⟩, h.up he⟩
  · rw [if_neg hc, if_neg hc]
    obtain ⟨g1, g2⟩ := h.err he (r := -2) (by decide)
    refine CM.up (s_X12_sorts g1 ra ?_) (by decide)
    rw [if_neg hc, if_neg hc]
    exact ⟨rfl, ⟨_, rfl⟩, g2⟩
theorem gss_cg {m z : Mem} (h : z 77 = m 77) (d : Int) : gss z d = gss m d := by
  unfold gss gsr grp grw grr nrf btw ao
  rw [h]
theorem twn_cg {m z : Mem} (h : z 77 = m 77) (a : Int) : twn z a = twn m a := by
  unfold twn tww twr unl
  rw [h]
theorem eno_cg {m z : Mem} (h : z 77 = m 77) (a : Int) : eno z a = eno m a := by
  unfold eno enw enr unl
  rw [h]
theorem lnf_cg {m z : Mem} (h : z 77 = m 77) : lnf z = lnf m := by
  unfold lnf
  refine it_cg _ _ _ (fun j x _ _ => ?_)
  rw [eno_cg h]
/-- scratch rows of the class -/
theorem INV.scr {e : Int} {m m' : Mem} (h : INV e m) (hM : MR m') (hq : ∀ q : Nat, q ≤ 53 ∨ 75 ≤ q → m' q = m q) (ht : TRL m') : INV e m' :=
  h.cg hM (fun q _ q2 _ => hq q (by omega)) (hq 75 (by omega)) (by rw [hq 76 (by omega)]) (by rw [hq 76 (by omega)]) (fun i _ => by rw [hq 77 (by omega)]) (hq 78 (by omega)) (hq 79 (by omega)) ht
/-- scratch rows of the reference -/
theorem INV.scm {e : Int} {m m' : Mem} (h : INV e m) (hM : MR m') (hq : ∀ q : Nat, q ≤ 79 → m' q = m q) : INV e m' :=
  h.cg hM (fun q _ q2 _ => hq q (by omega)) (hq 75 (by omega)) (by rw [hq 76 (by omega)]) (by rw [hq 76 (by omega)]) (fun i _ => by rw [hq 77 (by omega)]) (hq 78 (by omega)) (hq 79 (by omega)) (by unfold TRL; rw [hq 68 (by omega)]; exact h.2.2.2.2.2.1)
theorem fdm_ne (m : Mem) (d : Int) {q : Nat} (h1 : q ≠ 71) (h2 : q ≠ 72) : fdm m d q = m q := by
  unfold fdm fall lbm
  rw [it_8 (fun k x => by unfold fsz; exact stm_ne _ _ _ h2) _ _ _, it_8 (fun j x => by
    unfold frw
    exact it_8 (fun k y => by
      unfold fj
      split
      · unfold jn
        exact it_8 (fun i w => by
          unfold jn1
          split
          · exact stm_ne _ _ _ h1
          · rfl) _ _ _
      · rfl) _ _ _) _ _ _, it_8 (fun k x => stm_ne _ _ _ h1) _ _ _]
  exact flm_ne h2 _ _ _ _
theorem st_groups {G : GG} {e : Int} {m : Mem} (h : INV e m) (he : e < 512) {a b : Int} (ra : rg a) (rb : rg b) : CM G 20 mX11_groups [.ref (G.2.2.2 0), .int (J a), .int (J b)] m (fun r m1 => CM G 20 mX12_groups [.ref (G.2.2.2 76), .int (J a), .int (J b)] m1 (RES e r)) := by
  refine CM.up (s_X11_groups h.gi ra rb ?_) (by decide)
  by_cases hc : (0 ≤ a ∧ a ≤ 99) ∧ (0 ≤ b ∧ b ≤ 1)
  · rw [if_pos hc, if_pos hc]
    have hM := (fdm_I h.1 h.gi.2.1.1 a).2.1
    have hI : INV e (fdm m a) := h.scr hM (fun q hq => fdm_ne m a (by omega) (by omega)) (by unfold TRL; rw [fdm_ne m a (by decide) (by decide)]; exact h.2.2.2.2.2.1)
    obtain ⟨q1, q2⟩ := q_groups h.eq0 h.2.1 h.1 a
    refine CM.up (s_X12_groups hI.gm ra rb ?_) (by decide)
    rw [if_pos hc, if_pos hc, gss_cg (fdm_ne m a (by decide) (by decide)), ← q1, ← q2]
    exact ⟨rfl, ⟨_, rfl⟩, hI.up he⟩
  · rw [if_neg hc, if_neg hc]
    obtain ⟨g1, g2⟩ := h.err he (r := -2) (by decide)
    refine CM.up (s_X12_groups g1 ra rb ?_) (by decide)
    rw [if_neg hc, if_neg hc]
    exact ⟨rfl, ⟨_, rfl⟩, g2⟩
theorem INV.cmm {e : Int} {m : Mem} (h : INV e m) : INV e (cmm m) :=
  h.scr (cmm_I h.1 h.gi.2.1.1).2.1 (fun q hq => cmm_ne m (by omega)) (by unfold TRL; rw [cmm_ne m (by decide)]; exact h.2.2.2.2.2.1)
theorem st_twins {G : GG} {e : Int} {m : Mem} (h : INV e m) (he : e < 512) {a : Int} (ra : rg a) : CM G 20 mX11_twins [.ref (G.2.2.2 0), .int (J a)] m (fun r m1 => CM G 20 mX12_twins [.ref (G.2.2.2 76), .int (J a)] m1 (RES e r)) := by
  refine CM.up (s_X11_twins h.gi ra ?_) (by decide)
  by_cases hc : -1 ≤ a ∧ a ≤ 3
  · rw [if_pos hc, if_pos hc]
    refine CM.up (s_X12_twins h.cmm.gm ra ?_) (by decide)
    rw [if_pos hc, if_pos hc, twn_cg (cmm_ne m (by decide)), ← q_twins h.eq0 h.2.1 hc]
    exact ⟨rfl, ⟨_, rfl⟩, h.cmm.up he⟩
  · rw [if_neg hc, if_neg hc]
    obtain ⟨g1, g2⟩ := h.err he (r := -2) (by decide)
    refine CM.up (s_X12_twins g1 ra ?_) (by decide)
    rw [if_neg hc, if_neg hc]
    exact ⟨rfl, ⟨_, rfl⟩, g2⟩
theorem st_enough {G : GG} {e : Int} {m : Mem} (h : INV e m) (he : e < 512) {a : Int} (ra : rg a) : CM G 20 mX11_enough [.ref (G.2.2.2 0), .int (J a)] m (fun r m1 => CM G 20 mX12_enough [.ref (G.2.2.2 76), .int (J a)] m1 (RES e r)) := by
  refine CM.up (s_X11_enough h.gi ra ?_) (by decide)
  by_cases hc : -1 ≤ a ∧ a ≤ 15
  · rw [if_pos hc, if_pos hc]
    refine CM.up (s_X12_enough h.cmm.gm ra ?_) (by decide)
    rw [if_pos hc, if_pos hc, lnf_cg (cmm_ne m (by decide)), eno_cg (cmm_ne m (by decide)), ← q_least h.eq0 h.2.1, ← q_enough h.eq0 h.2.1]
    exact ⟨rfl, ⟨_, rfl⟩, h.cmm.up he⟩
  · rw [if_neg hc, if_neg hc]
    obtain ⟨g1, g2⟩ := h.err he (r := -2) (by decide)
    refine CM.up (s_X12_enough g1 ra ?_) (by decide)
    rw [if_neg hc, if_neg hc]
    exact ⟨rfl, ⟨_, rfl⟩, g2⟩
