/-! ===== digest ===== -/
def RESL (e : Int) (r : Option Value) : Option Value → Mem → Prop := fun r2 m2 => r2 = r ∧ (∃ z, r = some (.long (JL z))) ∧ INV (e + 1) m2
theorem pss_cg {x y : Mem} (h5 : y 65 = x 65) (h4 : y 64 1 = x 64 1) : pss y = pss x := by unfold pss; rw [h5, h4]
theorem st_digest {G : GG} {e : Int} {m : Mem} (h : INV e m) (he : e < 512) : CM G 20 mX11_digest [.ref (G.2.2.2 0)] m (fun r m1 => CM G 20 mX12_digest [.ref (G.2.2.2 76)] m1 (RESL e r)) := by
  refine CM.up (s_X11_digest h.gi ?_) (by decide)
  have hX := h.exm
  have hF := hX.fbm
  have hI : INV e (dgm m) := hF.cmm
  have n1 : ∀ q : Nat, q < 57 ∨ 74 < q → dgm m q = m q := fun q hq => by unfold dgm; rw [cmm_ne _ (by omega), fbm_ne _ (by omega), exm_ne _ (by omega)]
  have n2 : ∀ q : Nat, q < 64 ∨ 74 < q → dgm m q = exm m q := fun q hq => by unfold dgm; rw [cmm_ne _ (by omega), fbm_ne _ (by omega)]
  have n3 : ∀ q : Nat, q ≠ 74 → dgm m q = fbm (exm m) q := fun q hq => by unfold dgm; exact cmm_ne _ hq
  have tw : ∀ z : Mem, z 77 = m 77 → mpr (dgm m) (-1) = twn z (-1) ∧ lsf (dgm m) = lnf z := fun z hz => by
    have e7 : z 77 = fbm (exm m) 77 := by rw [hz, fbm_ne _ (by decide), exm_ne _ (by decide)]
    unfold dgm
    rw [q_twins hF.eq0 hF.2.1 (by decide), q_least hF.eq0 hF.2.1, twn_cg e7, lnf_cg e7]
    exact ⟨rfl, rfl⟩
  generalize dgm m = z at hI n1 n2 n3 tw ⊢
  have z77 : z 77 = m 77 := n1 77 (by omega)
  have sz_ : ∀ y : Mem, y 77 = m 77 → SE m y ∧ SE (exm m) y := fun y hy => by
    have q := h.se.cgz (z' := y) (fun i _ _ => by rw [hy])
    exact ⟨q, (exm_se q).2⟩
  -- the numbers one by one
  have d1 : dg1 z = ed1 z 2287 := by
    unfold dg1 ed1
    refine it_cg _ _ _ (fun w x a b => ?_)
    rw [fgr_tlm hI (fun _ _ => rfl) ⟨a, by omega⟩]
    rfl
  have hSz := hI.se
  have d2 : ∀ h0, wsgs z h0 = ed3 z h0 := fun h0 => by
    unfold wsgs ed3
    rw [← hSz.2.1]
    refine it_cg _ _ _ (fun k x a b => ?_)
    unfold wsg ed2
    refine it_cg _ _ _ (fun w y c d => ?_)
    have : sgp z k w = sgm z k w := by
      unfold sgp sgm
      by_cases h5 : w = 5
      · rw [if_pos h5, if_neg (by omega)]; exact q_co2 hSz k
      · rw [if_neg h5, if_pos (by omega)]; exact hSz.2.2.2.1 k w a (by have := hSz.1.1; omega) c (by omega)
    rw [this]
    rfl
  have d3 : ∀ h0, wwgs z h0 = ed5 z h0 := fun h0 => by
    unfold wwgs ed5
    rw [← hSz.2.2.1]
    refine it_cg _ _ _ (fun i x a b => ?_)
    unfold wwg ed4
    refine it_cg _ _ _ (fun w y c d => ?_)
    have e5 : z 5 1 = m 5 1 := by rw [n1 5 (by omega)]
    have e1 : wpr z i w = wpr (ipm m 16) i w := by
      have r : ∀ q : Nat, q = 6 ∨ (59 ≤ q ∧ q ≤ 62) → z q = ipm m 16 q := fun q hq => by
        rw [n2 q (by omega)]
        unfold exm
        rw [fwm_ne _ (by omega) (by omega), ckm_ne _ (by omega)]
      unfold wpr
      rw [r 6 (by omega), r 59 (by omega), r 60 (by omega), r 61 (by omega), r 62 (by omega)]
    rw [e1, q_wordOf (sz_ z z77).1 ⟨a, by have := hSz.1.2.1; omega⟩ ⟨c, by omega⟩]
    rfl
  have d4 : ∀ (y : Mem) (w : Int), y 77 = m 77 → 0 ≤ w → w ≤ 6 → spr z w = alr y w := fun y w hy w0 w1 => by
    obtain ⟨s1, s2⟩ := sz_ y hy
    have q := q_all s1 h.1 ⟨w0, w1⟩
    by_cases h5 : w = 5
    · rw [h5]
      show ple z = way_ (lyw y)
      refine q_ple s2 ?_ ?_ ?_
      · rw [n3 65 (by decide)]; unfold fbm; rw [arm_ne _ (by decide)]
      · rw [n3 64 (by decide)]; unfold fbm; rw [arm_ne _ (by decide)]
      · exact n2 7 (by omega)
    · by_cases h6 : w = 6
      · rw [h6]
        show pss z = spa y
        rw [← pss_eq s2]
        refine pss_cg ?_ ?_
        · rw [n3 65 (by decide)]; unfold fbm; rw [arm_ne _ (by decide)]
        · rw [n3 64 (by decide)]; unfold fbm; rw [arm_ne _ (by decide)]
      · rw [← q]
        unfold spr
        rw [n2 5 (by omega), n2 57 (by omega), n2 63 (by omega), if_neg h5, if_neg h5]
        (repeat' split) <;> first | rfl | (exfalso; omega)
  have d5 : ∀ h0, (ed7 z h0).1 = dg4 z h0 ∧ (∀ q : Nat, q ≠ 80 → (ed7 z h0).2 q = z q) ∧ MR (ed7 z h0).2 := fun h0 => by
    have hr := it_rel (f := fun w x => ed6 w x) (g := fun w (v : Int) => mxd v (spr z w)) (fun _ x v => x.1 = v ∧ (∀ q : Nat, q ≠ 80 → x.2 q = z q) ∧ GM x.2) 7 0 (h0, z) h0 (fun w x v a b hR => by
      obtain ⟨r1, r2, r3⟩ := hR
      have hx := alx_in r3 (w := w) ⟨a, by omega⟩
      refine ⟨?_, fun q hq => ?_, hx.1⟩
      · show 31 * x.1 + alr x.2 w = 31 * v + spr z w
        rw [d4 x.2 w (by rw [r2 77 (by decide), z77]) a (by omega), r1]
      · show alx x.2 w q = _
        rw [← r2 q hq]
        unfold alx
        split
        · exact lyw_ne _ hq
        · first | rfl | (rw [if_pos (show 0 ≤ w ∧ w ≤ 6 by omega)])) ⟨rfl, fun _ _ => rfl, hI.gm⟩
    exact ⟨hr.1, hr.2.1, hr.2.2.1⟩
  have hr := d5 (ed5 z (ed3 z (ed1 z 2287)))
  have er : edr z = ed7 z (ed5 z (ed3 z (ed1 z 2287))) := rfl
  rw [← er] at hr
  obtain ⟨r1, r2, r3⟩ := hr
  have y77 : (edr z).2 77 = m 77 := by rw [r2 77 (by decide), z77]
  obtain ⟨s1, s2⟩ := sz_ (edr z).2 y77
  obtain ⟨b1, -⟩ := q_best s2 hX.1 r3 hX.2.2.2.2.2.1
  obtain ⟨gc, gw⟩ := s2.gm
  have hBM := (bwm_I r3 gc gw).2.1
  have hBn : ∀ q : Nat, q ≠ 80 → q ≠ 81 → (bwm (edr z).2).2 q = z q := fun q q1 q2 => by rw [bwm_ne _ q1 q2, r2 q q1]
  refine CM.up (s_X12_digest hI.gm ?_) (by decide)
  have ev : edg z = edz (edr z).2 (edr z).1 (bwm (edr z).2) := rfl
  have em : edm z = (bwm (edr z).2).2 := rfl
  rw [ev, em]
  obtain ⟨t1, t2⟩ := tw (bwm (edr z).2).2 (by rw [hBn 77 (by decide) (by decide), z77])
  generalize bwm (edr z).2 = R at b1 hBM hBn t1 t2
  have hd8 : ∀ h0, dg5 z h0 = ed8 (edr z).2 h0 := fun h0 => by
    unfold dg5 ed8
    refine it_cg _ _ _ (fun s x a b => ?_)
    rw [r2 77 (by decide), ← hSz.2.2.2.2.2.2 s a (by omega)]
    rfl
  have hv : edz (edr z).2 (edr z).1 R = dgs z := by
    unfold edz dgs
    rw [d1, d2, d3, ← r1, hd8, t1, t2, n3 66 (by decide), b1]
    rfl
  rw [hv]
  exact ⟨rfl, ⟨_, rfl⟩, (hI.scm hBM (fun q hq => hBn q (by omega) (by omega))).up he⟩
