def flm (m : Mem) (q : Nat) (n : Nat) (v : Int) : Mem := it (fun j (x : Mem) => stm x q j v) 0 n m
def lyo (m : Mem) (a v : Int) : Mem := stm (it (fun s (x : Mem) => if x 7 s = v then stm x 7 s (m 7 a) else x) 0 6 m) 7 a v
def im2 (j : Int) (x : Int × Mem) : Mem := stm (stm (iw x.2 j (sw x.2 j)) 59 j x.1) 57 5 (x.1 + 1)
def ipr (j : Int) (x : Int × Mem) : Int × Mem := (if sw x.2 j = 3 then x.1 + 1 else x.1, if im2 j x 60 j = 0 then im2 j x else stm (im2 j x) 57 6 (im2 j x 57 6 + 1))
def ip0 (m : Mem) : Mem := stm (stm (flm m 58 6 (-1)) 57 6 0) 57 5 0
def ipm (m : Mem) (w : Int) : Mem := (it (fun j x => ipr j x) 0 (mn w (m 5 1)).toNat (0, ip0 m)).2
def pa (m : Mem) (s : Int) : Mem := if (0 ≤ s ∧ s ≤ 5) ∧ m 64 1 < 32 then stm (stm m 65 (m 64 1) s) 64 1 (m 64 1 + 1) else m
def pw (j : Int) (x : Mem) : Mem := pa (pa x (x 6 (j * 3 + 1))) ((pa x (x 6 (j * 3 + 1))) 6 (j * 3 + 2))
def fwm (m : Mem) : Mem := it (fun j x => pw j x) 0 (m 5 1).toNat (stm m 64 1 0)
def ple (m : Mem) : Int := it (fun n x => x + ab (m 7 (m 65 n) - m 7 (m 65 (n - 1)))) 1 (m 64 1 - 1).toNat 0
def pss (m : Mem) : Int := it (fun n x => io x (1 * 2 ^ (m 65 n).toNat)) 0 (m 64 1).toNat 0
def ck (j : Int) (x : (Int × Int) × Mem) : (Int × Int) × Mem := if sw x.2 j = 3 then ((0, 0), stm x.2 63 1 (x.2 63 1 + x.1.2)) else if sw x.2 j = 0 then ((x.1.1, mn (x.1.2 + 1) x.1.1), stm x.2 63 0 (x.2 63 0 + x.1.1)) else ((x.1.1 + 1, x.1.2), x.2)
def ckt (m : Mem) : (Int × Int) × Mem := it (fun j x => ck j x) 0 (m 5 1).toNat ((0, 0), stm (stm m 63 0 0) 63 1 0)
def ckm (m : Mem) : Mem := stm (ckt m).2 63 1 ((ckt m).2 63 1 + (ckt m).1.2)
/-- the same signs and words -/
def SW (m x : Mem) : Prop := x 2 = m 2 ∧ x 3 = m 3 ∧ x 5 = m 5 ∧ x 6 = m 6
theorem SW.rf (m : Mem) : SW m m := ⟨rfl, rfl, rfl, rfl⟩
theorem SW.st {m x : Mem} (h : SW m x) {q : Nat} (hq : q ≠ 2 ∧ q ≠ 3 ∧ q ≠ 5 ∧ q ≠ 6) (k z : Int) : SW m (stm x q k z) := ⟨by rw [stm_ne x k z (Ne.symm hq.1)]; exact h.1, by rw [stm_ne x k z (Ne.symm hq.2.1)]; exact h.2.1, by rw [stm_ne x k z (Ne.symm hq.2.2.1)]; exact h.2.2.1, by rw [stm_ne x k z (Ne.symm hq.2.2.2)]; exact h.2.2.2⟩
theorem iw0_SW {m x : Mem} (h : SW m x) (i : Int) : SW m (iw0 x i) := ((h.st (by decide) _ _).st (by decide) _ _).st (by decide) _ _
theorem iw_SW {m x : Mem} (h : SW m x) (i s : Int) : SW m (iw x i s) := by
  have h0 := iw0_SW h i
  unfold iw
  split
  · split
    · exact h0.st (by decide) _ _
    · exact h0
  · split
    · exact (h0.st (by decide) _ _).st (by decide) _ _
    · split
      · exact ((h0.st (by decide) _ _).st (by decide) _ _).st (by decide) _ _
      · exact h0
theorem iw0_MR {x : Mem} (h : MR x) (i : Int) : MR (iw0 x i) := ((h.st (by decide)).st (by decide)).st (by decide)
theorem iw_MR {x : Mem} (h : MR x) (i s : Int) : MR (iw x i s) := by
  have h0 := iw0_MR h i
  unfold iw
  split
  · split
    · exact h0.st (h _ _)
    · exact h0
  · split
    · exact (h0.st (tha_rg h _)).st (by split <;> decide)
    · split
      · exact ((h0.st (tha_rg h _)).st (tha_rg h _)).st (by split <;> decide)
      · exact h0
theorem pa_ne (m : Mem) (s : Int) {q : Nat} (h : q ≠ 64) (h2 : q ≠ 65) : pa m s q = m q := by
  unfold pa
  split
  · rw [stm_ne _ _ _ h, stm_ne _ _ _ h2]
  · rfl
theorem pa_n {m : Mem} {s : Int} (h : 0 ≤ m 64 1 ∧ m 64 1 ≤ 32) : (0 ≤ pa m s 64 1 ∧ pa m s 64 1 ≤ 32) ∧ m 64 1 ≤ pa m s 64 1 ∧ pa m s 64 1 ≤ m 64 1 + 1 := by
  unfold pa
  split
  · rw [stm_eq]; omega
  · omega
theorem pa_MR {m : Mem} (hM : MR m) {s : Int} (hs : rg s) (h : 0 ≤ m 64 1 ∧ m 64 1 ≤ 32) : MR (pa m s) := by
  unfold pa
  split
  · exact (hM.st hs).st (by omega)
  · exact hM
theorem SW.pa {m x : Mem} (h : SW m x) (s : Int) : SW m (pa x s) := ⟨by rw [pa_ne x s (by decide) (by decide)]; exact h.1, by rw [pa_ne x s (by decide) (by decide)]; exact h.2.1, by rw [pa_ne x s (by decide) (by decide)]; exact h.2.2.1, by rw [pa_ne x s (by decide) (by decide)]; exact h.2.2.2⟩
theorem flm_ne {q p : Nat} (h : p ≠ q) (v : Int) : ∀ (n : Nat) (j : Int) (m : Mem), it (fun j (x : Mem) => stm x q j v) j n m p = m p
  | 0, _, _ => rfl
  | n + 1, j, m => by rw [it, flm_ne h v n]; exact stm_ne m j v h
theorem flm_MR {q : Nat} {v : Int} (hv : rg v) : ∀ (n : Nat) (j : Int) (m : Mem), MR m → MR (it (fun j (x : Mem) => stm x q j v) j n m)
  | 0, _, _, h => h
  | n + 1, j, m, h => by rw [it]; exact flm_MR hv n _ _ (h.st hv)
def WDS (m : Mem) : Prop := ∀ i, 0 ≤ i → i < m 5 1 → 0 ≤ m 6 (i * 3 + 0) ∧ m 6 (i * 3 + 0) < 16
theorem SW.sn {m x : Mem} (h : SW m x) (hs : SN m) : SN x := by unfold SN; rw [h.2.2.1]; exact hs
theorem SW.wds {m x : Mem} (h : SW m x) (hw : WDS m) : WDS x := by unfold WDS; rw [h.2.2.1, h.2.2.2]; exact hw
theorem ip0_SW (m : Mem) : SW m (ip0 m) := by
  have h : SW m (flm m 58 6 (-1)) := ⟨flm_ne (by decide) _ _ _ _, flm_ne (by decide) _ _ _ _, flm_ne (by decide) _ _ _ _, flm_ne (by decide) _ _ _ _⟩
  exact (h.st (by decide) _ _).st (by decide) _ _
theorem ip0_MR {m : Mem} (h : MR m) : MR (ip0 m) := ((flm_MR (by decide) _ _ _ h).st (by decide)).st (by decide)
def IP (m : Mem) (j : Int) (x : Int × Mem) : Prop := SW m x.2 ∧ MR x.2 ∧ (0 ≤ x.1 ∧ x.1 ≤ j) ∧ (0 ≤ x.2 57 6 ∧ x.2 57 6 ≤ j)
theorem iw_57 (x : Mem) (i s : Int) : iw x i s 57 = x 57 := by
  unfold iw iw0
  (repeat' split) <;> rfl
theorem im2_57 (j : Int) (x : Int × Mem) : im2 j x 57 6 = x.2 57 6 := by
  unfold im2
  rw [stm_ix _ _ _ (by decide), stm_ne _ _ _ (by decide), iw_57]
theorem ipr_I {m : Mem} {j : Int} {x : Int × Mem} (hj : 0 ≤ j ∧ j ≤ 16) (h : IP m j x) : IP m (j + 1) (ipr j x) := by
  obtain ⟨h1, h2, h3, h4⟩ := h
  have a1 : SW m (im2 j x) := ((iw_SW h1 _ _).st (by decide) _ _).st (by decide) _ _
  have a2 : MR (im2 j x) := ((iw_MR h2 _ _).st (by omega)).st (by omega)
  have a3 := im2_57 j x
  refine ⟨?_, ?_, ?_, ?_⟩
  · show SW m (if im2 j x 60 j = 0 then _ else _)
    split
    · exact a1
    · exact a1.st (by decide) _ _
  · show MR (if im2 j x 60 j = 0 then _ else _)
    split
    · exact a2
    · exact a2.st (by omega)
  · show 0 ≤ (if sw x.2 j = 3 then _ else _) ∧ (if sw x.2 j = 3 then _ else _) ≤ j + 1
    split <;> omega
  · show 0 ≤ (if im2 j x 60 j = 0 then im2 j x else stm (im2 j x) 57 6 (im2 j x 57 6 + 1)) 57 6 ∧ (if im2 j x 60 j = 0 then im2 j x else stm (im2 j x) 57 6 (im2 j x 57 6 + 1)) 57 6 ≤ j + 1
    split
    · omega
    · rw [stm_eq]; omega
theorem s_fill_58 {G : GG} {m : Mem} {Q : Option Value → Mem → Prop} {v : Int}  (hQ : Q none (flm m 58 6 v)) : CM G 0 mJ7_fill_53178 [.ref (G.2.2.2 58), .int (J (v))] m Q := by
  refine CM.of dkJ7_fill_53178 (Or.inl rfl) [some _, some _, none, none] rfl (Nat.le_of_ble_eq_true rfl) ?_
  refine x_iconst (i := 0) (pc' := 1) rfl rfl ?_
  refine x_istore_n (L' := [some _, some _, some _, none]) (i := 1) (pc' := 2) rfl rfl rfl rfl (by decide) rfl ?_
  refine x_aload_n (i := 2) (pc' := 3) rfl rfl rfl rfl ?_
  refine m_alen (i := 3) (pc' := 4) rfl rfl (sh58 G) ?_
  refine x_istore_n (L' := [some _, some _, some _, some _]) (i := 4) (pc' := 5) rfl rfl rfl rfl (by decide) rfl ?_
  skip
  refine up_ind0 (P := fun (j : Int) (x : Mem) => BW G 0 mJ7_fill_53178 Q 5 [some (.ref (G.2.2.2 58)), some (.int (J (v))), some (.int (J (j))), some (.int (J (((6 : Nat) : Int))))] [] x) (fun (j : Int) (x : Mem) => stm x 58 j v) (6) (0) (m) (by omega) (fun j x hj0 hj hk => ?_) ?_
  · skip
    refine x_iload_n (i := 5) (pc' := 6) rfl rfl rfl rfl ?_
    refine x_iload_n (i := 6) (pc' := 7) rfl rfl rfl rfl ?_
    refine x_icmpge (i := 7) (pc' := 10) (tgt := 20) rfl rfl (by decide) ⟨by omega, by omega⟩ ⟨by omega, by omega⟩ (fun c1 => by exfalso; omega) (fun c1 => ?_)
    refine x_aload_n (i := 8) (pc' := 11) rfl rfl rfl rfl ?_
    refine x_iload_n (i := 9) (pc' := 12) rfl rfl rfl rfl ?_
    refine x_iload_n (i := 10) (pc' := 13) rfl rfl rfl rfl ?_
    refine m_iast (i := 11) (pc' := 14) rfl rfl (sh58 G) (by decide) ⟨by omega, by omega⟩ ?_
    refine x_iinc (L' := [some _, some _, some _, some _]) (i := 12) (pc' := 17) rfl rfl rfl rfl (by decide) rfl ?_
    refine x_goto (i := 13) (pc' := 5) rfl (by decide) ?_
    (first | exact hk | (refine AW.le ?_ hk; simp [lvle]; done) | ((repeat' split at hk) <;> first | exact hk | (refine AW.le ?_ hk; simp [lvle]; done) | (exfalso; omega)))
  · skip
    refine x_iload_n (i := 5) (pc' := 6) rfl rfl rfl rfl ?_
    refine x_iload_n (i := 6) (pc' := 7) rfl rfl rfl rfl ?_
    refine x_icmpge (i := 7) (pc' := 10) (tgt := 20) rfl rfl (by decide) ⟨by omega, by omega⟩ ⟨by omega, by omega⟩ (fun c1 => ?_) (fun c1 => by exfalso; omega)
    exact m_return (i := 14) rfl rfl (hQ)
theorem s_fill_72 {G : GG} {m : Mem} {Q : Option Value → Mem → Prop} {v : Int}  (hQ : Q none (flm m 72 16 v)) : CM G 0 mJ7_fill_53178 [.ref (G.2.2.2 72), .int (J (v))] m Q := by
  refine CM.of dkJ7_fill_53178 (Or.inl rfl) [some _, some _, none, none] rfl (Nat.le_of_ble_eq_true rfl) ?_
  refine x_iconst (i := 0) (pc' := 1) rfl rfl ?_
  refine x_istore_n (L' := [some _, some _, some _, none]) (i := 1) (pc' := 2) rfl rfl rfl rfl (by decide) rfl ?_
  refine x_aload_n (i := 2) (pc' := 3) rfl rfl rfl rfl ?_
  refine m_alen (i := 3) (pc' := 4) rfl rfl (sh72 G) ?_
  refine x_istore_n (L' := [some _, some _, some _, some _]) (i := 4) (pc' := 5) rfl rfl rfl rfl (by decide) rfl ?_
  skip
  refine up_ind0 (P := fun (j : Int) (x : Mem) => BW G 0 mJ7_fill_53178 Q 5 [some (.ref (G.2.2.2 72)), some (.int (J (v))), some (.int (J (j))), some (.int (J (((16 : Nat) : Int))))] [] x) (fun (j : Int) (x : Mem) => stm x 72 j v) (16) (0) (m) (by omega) (fun j x hj0 hj hk => ?_) ?_
  · skip
    refine x_iload_n (i := 5) (pc' := 6) rfl rfl rfl rfl ?_
    refine x_iload_n (i := 6) (pc' := 7) rfl rfl rfl rfl ?_
    refine x_icmpge (i := 7) (pc' := 10) (tgt := 20) rfl rfl (by decide) ⟨by omega, by omega⟩ ⟨by omega, by omega⟩ (fun c1 => by exfalso; omega) (fun c1 => ?_)
    refine x_aload_n (i := 8) (pc' := 11) rfl rfl rfl rfl ?_
    refine x_iload_n (i := 9) (pc' := 12) rfl rfl rfl rfl ?_
    refine x_iload_n (i := 10) (pc' := 13) rfl rfl rfl rfl ?_
    refine m_iast (i := 11) (pc' := 14) rfl rfl (sh72 G) (by decide) ⟨by omega, by omega⟩ ?_
    refine x_iinc (L' := [some _, some _, some _, some _]) (i := 12) (pc' := 17) rfl rfl rfl rfl (by decide) rfl ?_
    refine x_goto (i := 13) (pc' := 5) rfl (by decide) ?_
    (first | exact hk | (refine AW.le ?_ hk; simp [lvle]; done) | ((repeat' split at hk) <;> first | exact hk | (refine AW.le ?_ hk; simp [lvle]; done) | (exfalso; omega)))
  · skip
    refine x_iload_n (i := 5) (pc' := 6) rfl rfl rfl rfl ?_
    refine x_iload_n (i := 6) (pc' := 7) rfl rfl rfl rfl ?_
    refine x_icmpge (i := 7) (pc' := 10) (tgt := 20) rfl rfl (by decide) ⟨by omega, by omega⟩ ⟨by omega, by omega⟩ (fun c1 => ?_) (fun c1 => by exfalso; omega)
    exact m_return (i := 14) rfl rfl (hQ)
theorem s_fill_74 {G : GG} {m : Mem} {Q : Option Value → Mem → Prop} {v : Int}  (hQ : Q none (flm m 74 16 v)) : CM G 0 mJ7_fill_53178 [.ref (G.2.2.2 74), .int (J (v))] m Q := by
  refine CM.of dkJ7_fill_53178 (Or.inl rfl) [some _, some _, none, none] rfl (Nat.le_of_ble_eq_true rfl) ?_
  refine x_iconst (i := 0) (pc' := 1) rfl rfl ?_
  refine x_istore_n (L' := [some _, some _, some _, none]) (i := 1) (pc' := 2) rfl rfl rfl rfl (by decide) rfl ?_
  refine x_aload_n (i := 2) (pc' := 3) rfl rfl rfl rfl ?_
  refine m_alen (i := 3) (pc' := 4) rfl rfl (sh74 G) ?_
  refine x_istore_n (L' := [some _, some _, some _, some _]) (i := 4) (pc' := 5) rfl rfl rfl rfl (by decide) rfl ?_
  skip
  refine up_ind0 (P := fun (j : Int) (x : Mem) => BW G 0 mJ7_fill_53178 Q 5 [some (.ref (G.2.2.2 74)), some (.int (J (v))), some (.int (J (j))), some (.int (J (((16 : Nat) : Int))))] [] x) (fun (j : Int) (x : Mem) => stm x 74 j v) (16) (0) (m) (by omega) (fun j x hj0 hj hk => ?_) ?_
  · skip
    refine x_iload_n (i := 5) (pc' := 6) rfl rfl rfl rfl ?_
    refine x_iload_n (i := 6) (pc' := 7) rfl rfl rfl rfl ?_
    refine x_icmpge (i := 7) (pc' := 10) (tgt := 20) rfl rfl (by decide) ⟨by omega, by omega⟩ ⟨by omega, by omega⟩ (fun c1 => by exfalso; omega) (fun c1 => ?_)
    refine x_aload_n (i := 8) (pc' := 11) rfl rfl rfl rfl ?_
    refine x_iload_n (i := 9) (pc' := 12) rfl rfl rfl rfl ?_
    refine x_iload_n (i := 10) (pc' := 13) rfl rfl rfl rfl ?_
    refine m_iast (i := 11) (pc' := 14) rfl rfl (sh74 G) (by decide) ⟨by omega, by omega⟩ ?_
    refine x_iinc (L' := [some _, some _, some _, some _]) (i := 12) (pc' := 17) rfl rfl rfl rfl (by decide) rfl ?_
    refine x_goto (i := 13) (pc' := 5) rfl (by decide) ?_
    (first | exact hk | (refine AW.le ?_ hk; simp [lvle]; done) | ((repeat' split at hk) <;> first | exact hk | (refine AW.le ?_ hk; simp [lvle]; done) | (exfalso; omega)))
  · skip
    refine x_iload_n (i := 5) (pc' := 6) rfl rfl rfl rfl ?_
    refine x_iload_n (i := 6) (pc' := 7) rfl rfl rfl rfl ?_
    refine x_icmpge (i := 7) (pc' := 10) (tgt := 20) rfl rfl (by decide) ⟨by omega, by omega⟩ ⟨by omega, by omega⟩ (fun c1 => ?_) (fun c1 => by exfalso; omega)
    exact m_return (i := 14) rfl rfl (hQ)
theorem s_fill_67 {G : GG} {m : Mem} {Q : Option Value → Mem → Prop} {v : Int}  (hQ : Q none (flm m 67 36 v)) : CM G 0 mJ7_fill_53178 [.ref (G.2.2.2 67), .int (J (v))] m Q := by
  refine CM.of dkJ7_fill_53178 (Or.inl rfl) [some _, some _, none, none] rfl (Nat.le_of_ble_eq_true rfl) ?_
  refine x_iconst (i := 0) (pc' := 1) rfl rfl ?_
  refine x_istore_n (L' := [some _, some _, some _, none]) (i := 1) (pc' := 2) rfl rfl rfl rfl (by decide) rfl ?_
  refine x_aload_n (i := 2) (pc' := 3) rfl rfl rfl rfl ?_
  refine m_alen (i := 3) (pc' := 4) rfl rfl (sh67 G) ?_
  refine x_istore_n (L' := [some _, some _, some _, some _]) (i := 4) (pc' := 5) rfl rfl rfl rfl (by decide) rfl ?_
  skip
  refine up_ind0 (P := fun (j : Int) (x : Mem) => BW G 0 mJ7_fill_53178 Q 5 [some (.ref (G.2.2.2 67)), some (.int (J (v))), some (.int (J (j))), some (.int (J (((36 : Nat) : Int))))] [] x) (fun (j : Int) (x : Mem) => stm x 67 j v) (36) (0) (m) (by omega) (fun j x hj0 hj hk => ?_) ?_
  · skip
    refine x_iload_n (i := 5) (pc' := 6) rfl rfl rfl rfl ?_
    refine x_iload_n (i := 6) (pc' := 7) rfl rfl rfl rfl ?_
    refine x_icmpge (i := 7) (pc' := 10) (tgt := 20) rfl rfl (by decide) ⟨by omega, by omega⟩ ⟨by omega, by omega⟩ (fun c1 => by exfalso; omega) (fun c1 => ?_)
    refine x_aload_n (i := 8) (pc' := 11) rfl rfl rfl rfl ?_
    refine x_iload_n (i := 9) (pc' := 12) rfl rfl rfl rfl ?_
    refine x_iload_n (i := 10) (pc' := 13) rfl rfl rfl rfl ?_
    refine m_iast (i := 11) (pc' := 14) rfl rfl (sh67 G) (by decide) ⟨by omega, by omega⟩ ?_
    refine x_iinc (L' := [some _, some _, some _, some _]) (i := 12) (pc' := 17) rfl rfl rfl rfl (by decide) rfl ?_
    refine x_goto (i := 13) (pc' := 5) rfl (by decide) ?_
    (first | exact hk | (refine AW.le ?_ hk; simp [lvle]; done) | ((repeat' split at hk) <;> first | exact hk | (refine AW.le ?_ hk; simp [lvle]; done) | (exfalso; omega)))
  · skip
    refine x_iload_n (i := 5) (pc' := 6) rfl rfl rfl rfl ?_
    refine x_iload_n (i := 6) (pc' := 7) rfl rfl rfl rfl ?_
    refine x_icmpge (i := 7) (pc' := 10) (tgt := 20) rfl rfl (by decide) ⟨by omega, by omega⟩ ⟨by omega, by omega⟩ (fun c1 => ?_) (fun c1 => by exfalso; omega)
    exact m_return (i := 14) rfl rfl (hQ)
theorem s_X4_thingAt {G : GG} {m : Mem} {Q : Option Value → Mem → Prop} {a : Int} (hM : MR m) (ha : rg a) (hQ : Q (some (.int (J (tha m a)))) m) : CM G 2 mX4_thingAt [.ref (G.2.2.2 57), .int (J (a))] m Q := by
  refine CM.of dkX4_thingAt (Or.inl rfl) [some _, some _] rfl (Nat.le_of_ble_eq_true rfl) ?_
  refine x_iload_n (i := 0) (pc' := 1) rfl rfl rfl rfl ?_
  refine m_callS (i := 1) (pc' := 4) (av := [_]) (rest := []) rfl rfl (by decide) lX4_82 rfl rfl (Nat.le_of_ble_eq_true rfl) (Nat.le_refl _) (Nat.le_refl _) (s_X11_isSpot (by omega) ?_)
  dsimp only [psh]
  refine x_ifeq (i := 2) (pc' := 7) (tgt := 16) rfl rfl (by decide) (by (repeat' split at *) <;> omega) (fun c1 => ?_) (fun c1 => ?_)
  · skip
    refine x_iconst (i := 8) (pc' := 17) rfl rfl ?_
    exact m_ireturn (i := 9) rfl rfl (by unfold tha at hQ; (repeat' split at hQ) <;> first | exact hQ | (exfalso; omega))
  · skip
    refine x_aload_n (i := 3) (pc' := 8) rfl rfl rfl rfl ?_
    refine m_getf (i := 4) (pc' := 11) rfl rfl flX4_9 (sh57 G) rfl rfl ?_
    refine x_iload_n (i := 5) (pc' := 12) rfl rfl rfl rfl ?_
    refine m_iald (i := 6) (pc' := 13) rfl rfl (sh58 G) (by decide) ⟨by (repeat' split at *) <;> omega, by (repeat' split at *) <;> omega⟩ ?_
    refine x_goto (i := 7) (pc' := 17) rfl (by decide) ?_
    exact m_ireturn (i := 9) rfl rfl (by unfold tha at hQ; (repeat' split at hQ) <;> first | exact hQ | (exfalso; omega))
theorem s_X4_setThing {G : GG} {m : Mem} {Q : Option Value → Mem → Prop} {a b : Int} (ha : rg a) (hQ : Q none (if 0 ≤ a ∧ a ≤ 5 then stm m 58 a b else m)) : CM G 2 mX4_setThing [.ref (G.2.2.2 57), .int (J (a)), .int (J (b))] m Q := by
  refine CM.of dkX4_setThing (Or.inl rfl) [some _, some _, some _] rfl (Nat.le_of_ble_eq_true rfl) ?_
  refine x_iload_n (i := 0) (pc' := 1) rfl rfl rfl rfl ?_
  refine m_callS (i := 1) (pc' := 4) (av := [_]) (rest := []) rfl rfl (by decide) lX4_82 rfl rfl (Nat.le_of_ble_eq_true rfl) (Nat.le_refl _) (Nat.le_refl _) (s_X11_isSpot (by omega) ?_)
  dsimp only [psh]
  refine x_ifeq (i := 2) (pc' := 7) (tgt := 14) rfl rfl (by decide) (by (repeat' split at *) <;> omega) (fun c1 => ?_) (fun c1 => ?_)
  · skip
    exact m_return (i := 8) rfl rfl (by (repeat' split at hQ) <;> first | exact hQ | (exfalso; omega))
  · skip
    refine x_aload_n (i := 3) (pc' := 8) rfl rfl rfl rfl ?_
    refine m_getf (i := 4) (pc' := 11) rfl rfl flX4_9 (sh57 G) rfl rfl ?_
    refine x_iload_n (i := 5) (pc' := 12) rfl rfl rfl rfl ?_
    refine x_iload_n (i := 6) (pc' := 13) rfl rfl rfl rfl ?_
    refine m_iast (i := 7) (pc' := 14) rfl rfl (sh58 G) (by decide) ⟨by (repeat' split at *) <;> omega, by (repeat' split at *) <;> omega⟩ ?_
    exact m_return (i := 8) rfl rfl (by (repeat' split at hQ) <;> first | exact hQ | (exfalso; omega))
theorem s_X4_interpretWord {G : GG} {m : Mem} {Q : Option Value → Mem → Prop} {a b : Int} (hM : MR m) (hs : SN m) (ha : 0 ≤ a ∧ a < m 5 1) (hb : rg b) (hQ : Q none (iw m a b)) : CM G 3 mX4_interpretWord [.ref (G.2.2.2 57), .ref (G.2.2.2 5), .int (J (a)), .int (J (b))] m Q := by
  refine CM.of dkX4_interpretWord (Or.inl rfl) [some _, some _, some _, some _, none, none] rfl (Nat.le_of_ble_eq_true rfl) ?_
  have hs0 := hs.1; have hs1 := hs.2
  have hM0 := iw0_MR hM a
  have hf := hM 6 (a * 3 + 1); have ht := hM 6 (a * 3 + 2)
  have hta := tha_rg hM (m 6 (a * 3 + 1)); have htb := tha_rg hM (m 6 (a * 3 + 2))
  have et0 : ∀ s, tha (iw0 m a) s = tha m s := fun _ => rfl
  have et1 : ∀ s, tha (stm (iw0 m a) 61 a (tha m (m 6 (a * 3 + 1)))) s = tha m s := fun _ => rfl
  refine x_aload_n (i := 0) (pc' := 1) rfl rfl rfl rfl ?_
  refine x_iload_n (i := 1) (pc' := 2) rfl rfl rfl rfl ?_
  refine m_callV (i := 2) (pc' := 5) (av := [_]) (rest := []) rfl rfl (by decide) lX4_66 (sh5 G) rfl rfl rfl rfl rfl (Nat.le_of_ble_eq_true rfl) (Nat.le_refl _) (Nat.le_refl _) (s_X8_from hs (by omega) ?_)
  dsimp only [psh]
  refine x_istore (L' := [some _, some _, some _, some _, some _, none]) (i := 3) (pc' := 7) rfl rfl rfl (by decide) rfl ?_
  refine x_aload_n (i := 4) (pc' := 8) rfl rfl rfl rfl ?_
  refine x_iload_n (i := 5) (pc' := 9) rfl rfl rfl rfl ?_
  refine m_callV (i := 6) (pc' := 12) (av := [_]) (rest := []) rfl rfl (by decide) lX4_69 (sh5 G) rfl rfl rfl rfl rfl (Nat.le_of_ble_eq_true rfl) (Nat.le_refl _) (Nat.le_refl _) (s_X8_to hs (by omega) ?_)
  dsimp only [psh]
  refine x_istore (L' := [some _, some _, some _, some _, some _, some _]) (i := 7) (pc' := 14) rfl rfl rfl (by decide) rfl ?_
  refine x_aload_n (i := 8) (pc' := 15) rfl rfl rfl rfl ?_
  refine m_getf (i := 9) (pc' := 18) rfl rfl flX4_18 (sh57 G) rfl rfl ?_
  refine x_iload_n (i := 10) (pc' := 19) rfl rfl rfl rfl ?_
  refine x_iconst (i := 11) (pc' := 20) rfl rfl ?_
  refine m_zast (i := 12) (pc' := 21) rfl rfl (sh60 G) (by decide) ⟨by omega, by omega⟩ (by omega) ?_
  refine x_aload_n (i := 13) (pc' := 22) rfl rfl rfl rfl ?_
  refine m_getf (i := 14) (pc' := 25) rfl rfl flX4_22 (sh57 G) rfl rfl ?_
  refine x_iload_n (i := 15) (pc' := 26) rfl rfl rfl rfl ?_
  refine x_iconst (i := 16) (pc' := 27) rfl rfl ?_
  refine m_iast (i := 17) (pc' := 28) rfl rfl (sh61 G) (by decide) ⟨by omega, by omega⟩ ?_
  refine x_aload_n (i := 18) (pc' := 29) rfl rfl rfl rfl ?_
  refine m_getf (i := 19) (pc' := 32) rfl rfl flX4_25 (sh57 G) rfl rfl ?_
  refine x_iload_n (i := 20) (pc' := 33) rfl rfl rfl rfl ?_
  refine x_iconst (i := 21) (pc' := 34) rfl rfl ?_
  refine m_iast (i := 22) (pc' := 35) rfl rfl (sh62 G) (by decide) ⟨by omega, by omega⟩ ?_
  refine x_iload_n (i := 23) (pc' := 36) rfl rfl rfl rfl ?_
  rcases (by omega : b = 1 ∨ b = 2 ∨ b = 3 ∨ (b < 1 ∨ 3 < b)) with c1 | c1 | c1 | c1
  · first | (exfalso; omega; done) | skip
    all_goals (
      refine x_tableIn (i := 24) (v := 1) (off := 28) (tgt := 64) rfl c1 ⟨by decide, by decide⟩ (by decide) (by decide) rfl (by decide) ?_
      refine x_aload_n (i := 25) (pc' := 65) rfl rfl rfl rfl ?_
      refine x_iload (i := 26) (pc' := 67) rfl rfl rfl ?_
      refine x_aload_n (i := 27) (pc' := 68) rfl rfl rfl rfl ?_
      refine x_iload_n (i := 28) (pc' := 69) rfl rfl rfl rfl ?_
      refine m_callV (i := 29) (pc' := 72) (av := [_]) (rest := [_, _]) rfl rfl (by decide) lX4_72 (sh5 G) rfl rfl rfl rfl rfl (Nat.le_of_ble_eq_true rfl) (Nat.le_refl _) (Nat.le_refl _) (s_X8_signIn (m := iw0 m a) hs ha ?_)
      dsimp only [psh]
      refine m_callV (i := 30) (pc' := 75) (av := [_, _]) (rest := []) rfl rfl (by decide) lX4_75 (sh57 G) rfl rfl rfl rfl rfl (Nat.le_of_ble_eq_true rfl) (Nat.le_refl _) (Nat.le_refl _) (s_X4_setThing (hM _ _) ?_)
      dsimp only [psh]
      refine x_goto (i := 31) (pc' := 184) rfl (by decide) ?_
      exact m_return (i := 93) rfl rfl (by unfold iw at hQ; (repeat' split at hQ) <;> (repeat' split) <;> first | exact hQ | (exfalso; omega))
      skip)
  · first | (exfalso; omega; done) | skip
    all_goals (
      refine x_tableIn (i := 24) (v := 2) (off := 42) (tgt := 78) rfl c1 ⟨by decide, by decide⟩ (by decide) (by decide) rfl (by decide) ?_
      refine x_aload_n (i := 32) (pc' := 79) rfl rfl rfl rfl ?_
      refine m_getf (i := 33) (pc' := 82) rfl rfl flX4_22 (sh57 G) rfl rfl ?_
      refine x_iload_n (i := 34) (pc' := 83) rfl rfl rfl rfl ?_
      refine x_aload_n (i := 35) (pc' := 84) rfl rfl rfl rfl ?_
      refine x_iload (i := 36) (pc' := 86) rfl rfl rfl ?_
      refine m_callV (i := 37) (pc' := 89) (av := [_]) (rest := [_, _]) rfl rfl (by decide) lX4_79 (sh57 G) rfl rfl rfl rfl rfl (Nat.le_of_ble_eq_true rfl) (Nat.le_refl _) (Nat.le_refl _) (s_X4_thingAt (m := iw0 m a) hM0 (hM _ _) ?_)
      dsimp only [psh]
      rw [et0]
      refine m_iast (i := 38) (pc' := 90) rfl rfl (sh61 G) (by decide) ⟨by omega, by omega⟩ ?_
      refine x_aload_n (i := 39) (pc' := 91) rfl rfl rfl rfl ?_
      refine m_getf (i := 40) (pc' := 94) rfl rfl flX4_18 (sh57 G) rfl rfl ?_
      refine x_iload_n (i := 41) (pc' := 95) rfl rfl rfl rfl ?_
      refine x_aload_n (i := 42) (pc' := 96) rfl rfl rfl rfl ?_
      refine m_getf (i := 43) (pc' := 99) rfl rfl flX4_22 (sh57 G) rfl rfl ?_
      refine x_iload_n (i := 44) (pc' := 100) rfl rfl rfl rfl ?_
      refine m_iald (i := 45) (pc' := 101) rfl rfl (sh61 G) (by decide) ⟨by omega, by omega⟩ ?_
      refine x_iconst (i := 46) (pc' := 102) rfl rfl ?_
      simp (disch := decide) only [stm_eq, stm_ne]
      refine x_icmpne (i := 47) (pc' := 105) (tgt := 109) rfl rfl (by decide) (by first | omega | exact hM _ _ | exact tha_rg hM _) (by first | omega | exact hM _ _ | exact tha_rg hM _) (fun c2 => ?_) (fun c2 => ?_)
      · skip
        refine x_iconst (i := 50) (pc' := 110) rfl rfl ?_
        refine m_zast (i := 51) (pc' := 111) rfl rfl (sh60 G) (by decide) ⟨by omega, by omega⟩ (by omega) ?_
        refine x_goto (i := 52) (pc' := 184) rfl (by decide) ?_
        exact m_return (i := 93) rfl rfl (by unfold iw at hQ; (repeat' split at hQ) <;> (repeat' split) <;> first | exact hQ | (exfalso; omega))
      · skip
        refine x_iconst (i := 48) (pc' := 106) rfl rfl ?_
        refine x_goto (i := 49) (pc' := 110) rfl (by decide) ?_
        refine m_zast (i := 51) (pc' := 111) rfl rfl (sh60 G) (by decide) ⟨by omega, by omega⟩ (by omega) ?_
        refine x_goto (i := 52) (pc' := 184) rfl (by decide) ?_
        exact m_return (i := 93) rfl rfl (by unfold iw at hQ; (repeat' split at hQ) <;> (repeat' split) <;> first | exact hQ | (exfalso; omega))
      skip)
  · first | (exfalso; omega; done) | skip
    all_goals (
      refine x_tableIn (i := 24) (v := 3) (off := 78) (tgt := 114) rfl c1 ⟨by decide, by decide⟩ (by decide) (by decide) rfl (by decide) ?_
      refine x_aload_n (i := 53) (pc' := 115) rfl rfl rfl rfl ?_
      refine m_getf (i := 54) (pc' := 118) rfl rfl flX4_22 (sh57 G) rfl rfl ?_
      refine x_iload_n (i := 55) (pc' := 119) rfl rfl rfl rfl ?_
      refine x_aload_n (i := 56) (pc' := 120) rfl rfl rfl rfl ?_
      refine x_iload (i := 57) (pc' := 122) rfl rfl rfl ?_
      refine m_callV (i := 58) (pc' := 125) (av := [_]) (rest := [_, _]) rfl rfl (by decide) lX4_79 (sh57 G) rfl rfl rfl rfl rfl (Nat.le_of_ble_eq_true rfl) (Nat.le_refl _) (Nat.le_refl _) (s_X4_thingAt (m := iw0 m a) hM0 (hM _ _) ?_)
      dsimp only [psh]
      rw [et0]
      refine m_iast (i := 59) (pc' := 126) rfl rfl (sh61 G) (by decide) ⟨by omega, by omega⟩ ?_
      refine x_aload_n (i := 60) (pc' := 127) rfl rfl rfl rfl ?_
      refine m_getf (i := 61) (pc' := 130) rfl rfl flX4_25 (sh57 G) rfl rfl ?_
      refine x_iload_n (i := 62) (pc' := 131) rfl rfl rfl rfl ?_
      refine x_aload_n (i := 63) (pc' := 132) rfl rfl rfl rfl ?_
      refine x_iload (i := 64) (pc' := 134) rfl rfl rfl ?_
      refine m_callV (i := 65) (pc' := 137) (av := [_]) (rest := [_, _]) rfl rfl (by decide) lX4_79 (sh57 G) rfl rfl rfl rfl rfl (Nat.le_of_ble_eq_true rfl) (Nat.le_refl _) (Nat.le_refl _) (s_X4_thingAt (hM0.st hta) (hM _ _) ?_)
      dsimp only [psh]
      rw [et1]
      refine m_iast (i := 66) (pc' := 138) rfl rfl (sh62 G) (by decide) ⟨by omega, by omega⟩ ?_
      refine x_aload_n (i := 67) (pc' := 139) rfl rfl rfl rfl ?_
      refine m_getf (i := 68) (pc' := 142) rfl rfl flX4_18 (sh57 G) rfl rfl ?_
      refine x_iload_n (i := 69) (pc' := 143) rfl rfl rfl rfl ?_
      refine x_iload (i := 70) (pc' := 145) rfl rfl rfl ?_
      refine x_iconst (i := 71) (pc' := 146) rfl rfl ?_
      refine x_icmpeq (i := 72) (pc' := 149) (tgt := 159) rfl rfl (by decide) (by first | omega | exact hM _ _ | exact tha_rg hM _) (by first | omega | exact hM _ _ | exact tha_rg hM _) (fun c3 => ?_) (fun c3 => ?_)
      · skip
        refine x_iload (i := 79) (pc' := 161) rfl rfl rfl ?_
        refine x_iconst (i := 80) (pc' := 162) rfl rfl ?_
        refine x_icmpeq (i := 81) (pc' := 165) (tgt := 179) rfl rfl (by decide) (by first | omega | exact hM _ _ | exact tha_rg hM _) (by first | omega | exact hM _ _ | exact tha_rg hM _) (fun c4 => ?_) (fun c4 => ?_)
        · skip
          refine x_iconst (i := 90) (pc' := 180) rfl rfl ?_
          refine m_zast (i := 91) (pc' := 181) rfl rfl (sh60 G) (by decide) ⟨by omega, by omega⟩ (by omega) ?_
          refine x_goto (i := 92) (pc' := 184) rfl (by decide) ?_
          exact m_return (i := 93) rfl rfl (by unfold iw at hQ; (repeat' split at hQ) <;> (repeat' split) <;> first | exact hQ | (exfalso; omega))
        · skip
          refine x_aload_n (i := 82) (pc' := 166) rfl rfl rfl rfl ?_
          refine m_getf (i := 83) (pc' := 169) rfl rfl flX4_25 (sh57 G) rfl rfl ?_
          refine x_iload_n (i := 84) (pc' := 170) rfl rfl rfl rfl ?_
          refine m_iald (i := 85) (pc' := 171) rfl rfl (sh62 G) (by decide) ⟨by omega, by omega⟩ ?_
          refine x_iconst (i := 86) (pc' := 172) rfl rfl ?_
          simp (disch := decide) only [stm_eq, stm_ne]
          refine x_icmpne (i := 87) (pc' := 175) (tgt := 179) rfl rfl (by decide) (by first | omega | exact hM _ _ | exact tha_rg hM _) (by first | omega | exact hM _ _ | exact tha_rg hM _) (fun c5 => ?_) (fun c5 => ?_)
          · skip
            refine x_iconst (i := 90) (pc' := 180) rfl rfl ?_
            refine m_zast (i := 91) (pc' := 181) rfl rfl (sh60 G) (by decide) ⟨by omega, by omega⟩ (by omega) ?_
            refine x_goto (i := 92) (pc' := 184) rfl (by decide) ?_
            exact m_return (i := 93) rfl rfl (by unfold iw at hQ; (repeat' split at hQ) <;> (repeat' split) <;> first | exact hQ | (exfalso; omega))
          · skip
            refine x_iconst (i := 88) (pc' := 176) rfl rfl ?_
            refine x_goto (i := 89) (pc' := 180) rfl (by decide) ?_
            refine m_zast (i := 91) (pc' := 181) rfl rfl (sh60 G) (by decide) ⟨by omega, by omega⟩ (by omega) ?_
            refine x_goto (i := 92) (pc' := 184) rfl (by decide) ?_
            exact m_return (i := 93) rfl rfl (by unfold iw at hQ; (repeat' split at hQ) <;> (repeat' split) <;> first | exact hQ | (exfalso; omega))
      · skip
        refine x_aload_n (i := 73) (pc' := 150) rfl rfl rfl rfl ?_
        refine m_getf (i := 74) (pc' := 153) rfl rfl flX4_22 (sh57 G) rfl rfl ?_
        refine x_iload_n (i := 75) (pc' := 154) rfl rfl rfl rfl ?_
        refine m_iald (i := 76) (pc' := 155) rfl rfl (sh61 G) (by decide) ⟨by omega, by omega⟩ ?_
        refine x_iconst (i := 77) (pc' := 156) rfl rfl ?_
        simp (disch := decide) only [stm_eq, stm_ne]
        refine x_icmpeq (i := 78) (pc' := 159) (tgt := 175) rfl rfl (by decide) (by first | omega | exact hM _ _ | exact tha_rg hM _) (by first | omega | exact hM _ _ | exact tha_rg hM _) (fun c6 => ?_) (fun c6 => ?_)
        · skip
          refine x_iconst (i := 88) (pc' := 176) rfl rfl ?_
          refine x_goto (i := 89) (pc' := 180) rfl (by decide) ?_
          refine m_zast (i := 91) (pc' := 181) rfl rfl (sh60 G) (by decide) ⟨by omega, by omega⟩ (by omega) ?_
          refine x_goto (i := 92) (pc' := 184) rfl (by decide) ?_
          exact m_return (i := 93) rfl rfl (by unfold iw at hQ; (repeat' split at hQ) <;> (repeat' split) <;> first | exact hQ | (exfalso; omega))
        · skip
          refine x_iload (i := 79) (pc' := 161) rfl rfl rfl ?_
          refine x_iconst (i := 80) (pc' := 162) rfl rfl ?_
          refine x_icmpeq (i := 81) (pc' := 165) (tgt := 179) rfl rfl (by decide) (by first | omega | exact hM _ _ | exact tha_rg hM _) (by first | omega | exact hM _ _ | exact tha_rg hM _) (fun c7 => ?_) (fun c7 => ?_)
          · skip
            refine x_iconst (i := 90) (pc' := 180) rfl rfl ?_
            refine m_zast (i := 91) (pc' := 181) rfl rfl (sh60 G) (by decide) ⟨by omega, by omega⟩ (by omega) ?_
            refine x_goto (i := 92) (pc' := 184) rfl (by decide) ?_
            exact m_return (i := 93) rfl rfl (by unfold iw at hQ; (repeat' split at hQ) <;> (repeat' split) <;> first | exact hQ | (exfalso; omega))
          · skip
            refine x_aload_n (i := 82) (pc' := 166) rfl rfl rfl rfl ?_
            refine m_getf (i := 83) (pc' := 169) rfl rfl flX4_25 (sh57 G) rfl rfl ?_
            refine x_iload_n (i := 84) (pc' := 170) rfl rfl rfl rfl ?_
            refine m_iald (i := 85) (pc' := 171) rfl rfl (sh62 G) (by decide) ⟨by omega, by omega⟩ ?_
            refine x_iconst (i := 86) (pc' := 172) rfl rfl ?_
            simp (disch := decide) only [stm_eq, stm_ne]
            refine x_icmpne (i := 87) (pc' := 175) (tgt := 179) rfl rfl (by decide) (by first | omega | exact hM _ _ | exact tha_rg hM _) (by first | omega | exact hM _ _ | exact tha_rg hM _) (fun c8 => ?_) (fun c8 => ?_)
            · skip
              refine x_iconst (i := 90) (pc' := 180) rfl rfl ?_
              refine m_zast (i := 91) (pc' := 181) rfl rfl (sh60 G) (by decide) ⟨by omega, by omega⟩ (by omega) ?_
              refine x_goto (i := 92) (pc' := 184) rfl (by decide) ?_
              exact m_return (i := 93) rfl rfl (by unfold iw at hQ; (repeat' split at hQ) <;> (repeat' split) <;> first | exact hQ | (exfalso; omega))
            · skip
              refine x_iconst (i := 88) (pc' := 176) rfl rfl ?_
              refine x_goto (i := 89) (pc' := 180) rfl (by decide) ?_
              refine m_zast (i := 91) (pc' := 181) rfl rfl (sh60 G) (by decide) ⟨by omega, by omega⟩ (by omega) ?_
              refine x_goto (i := 92) (pc' := 184) rfl (by decide) ?_
              exact m_return (i := 93) rfl rfl (by unfold iw at hQ; (repeat' split at hQ) <;> (repeat' split) <;> first | exact hQ | (exfalso; omega))
      skip)
  · first | (exfalso; omega; done) | skip
    all_goals (
      refine x_tableOut (i := 24) (tgt := 184) rfl (by first | omega | exact hM _ _ | exact tha_rg hM _) c1 (by decide) ?_
      exact m_return (i := 93) rfl rfl (by unfold iw at hQ; (repeat' split at hQ) <;> (repeat' split) <;> first | exact hQ | (exfalso; omega))
      skip)
theorem s_X4_interpret {G : GG} {m : Mem} {Q : Option Value → Mem → Prop} {b : Int} (hM : MR m) (hs : SN m) (hwd : WDS m) (hb : 0 ≤ b ∧ b ≤ 16) (hQ : Q none (ipm m b)) : CM G 4 mX4_interpret [.ref (G.2.2.2 57), .ref (G.2.2.2 1), .int (J (b))] m Q := by
  refine CM.of dkX4_interpret (Or.inl rfl) [some _, some _, some _, none, none, none, none] rfl (Nat.le_of_ble_eq_true rfl) ?_
  have hs0 := hs.1; have hs1 := hs.2
  refine x_aload_n (i := 0) (pc' := 1) rfl rfl rfl rfl ?_
  refine m_getf (i := 1) (pc' := 4) rfl rfl flX4_9 (sh57 G) rfl rfl ?_
  refine x_iconst (i := 2) (pc' := 5) rfl rfl ?_
  refine m_callS (i := 3) (pc' := 8) (av := [_, _]) (rest := []) rfl rfl (by decide) lX4_35 rfl rfl (Nat.le_of_ble_eq_true rfl) (Nat.le_refl _) (Nat.le_refl _) (s_fill_58 ?_)
  dsimp only [psh]
  refine x_aload_n (i := 4) (pc' := 9) rfl rfl rfl rfl ?_
  refine x_iconst (i := 5) (pc' := 10) rfl rfl ?_
  refine m_putf (kz := 6) (i := 6) (pc' := 13) rfl rfl flX4_32 (sh57 G) (fun _ => rfl) rfl (Nat.le_of_ble_eq_true rfl) rfl rfl ?_
  refine x_aload_n (i := 7) (pc' := 14) rfl rfl rfl rfl ?_
  refine x_iconst (i := 8) (pc' := 15) rfl rfl ?_
  refine m_putf (kz := 5) (i := 9) (pc' := 18) rfl rfl flX4_28 (sh57 G) (fun _ => rfl) rfl (Nat.le_of_ble_eq_true rfl) rfl rfl ?_
  refine x_iconst (i := 10) (pc' := 19) rfl rfl ?_
  refine x_istore_n (L' := [some _, some _, some _, some _, none, none, none]) (i := 11) (pc' := 20) rfl rfl rfl rfl (by decide) rfl ?_
  refine x_iload_n (i := 12) (pc' := 21) rfl rfl rfl rfl ?_
  refine x_aload_n (i := 13) (pc' := 22) rfl rfl rfl rfl ?_
  refine m_getf (i := 14) (pc' := 25) rfl rfl flX4_41 (sh1 G) rfl rfl ?_
  refine m_getf (i := 15) (pc' := 28) rfl rfl flX4_47 (sh5 G) rfl rfl ?_
  have e5 : stm (stm (flm m 58 6 (-1)) 57 6 0) 57 5 0 5 1 = m 5 1 := congrFun (ip0_SW m).2.2.1 1
  rw [e5]
  refine m_callS (i := 16) (pc' := 31) (av := [_, _]) (rest := []) rfl rfl (by decide) lX4_52 rfl rfl (Nat.le_of_ble_eq_true rfl) (Nat.le_refl _) (Nat.le_refl _) (s_J9_min_7cf53 (by omega) (by omega) ?_)
  dsimp only [psh]
  refine x_istore (L' := [some _, some _, some _, some _, some _, none, none]) (i := 17) (pc' := 33) rfl rfl rfl (by decide) rfl ?_
  refine x_iconst (i := 18) (pc' := 34) rfl rfl ?_
  refine x_istore (L' := [some _, some _, some _, some _, some _, some _, none]) (i := 19) (pc' := 36) rfl rfl rfl (by decide) rfl ?_
  skip
  have hmn : 0 ≤ mn b (m 5 1) ∧ mn b (m 5 1) ≤ m 5 1 := (by unfold mn; split <;> omega)
  refine up_ind1 (P := fun (j : Int) (x : Int × Mem) => BW G 4 mX4_interpret Q 36 [some (.ref (G.2.2.2 57)), some (.ref (G.2.2.2 1)), some (.int (J (b))), some (.int (J (x.1))), some (.int (J (mn b (m 5 1)))), some (.int (J (j))), none] [] x.2) (fun (j : Int) (x : Int × Mem) => ipr j x) (fun (j : Int) (x : Int × Mem) => IP m j x) (mn b (m 5 1)) (0) ((0, ip0 m)) (by omega) (⟨ip0_SW m, ip0_MR hM, by (show (0 : Int) ≤ 0 ∧ (0 : Int) ≤ 0; decide), by (have e6 : ip0 m 57 6 = 0 := (by unfold ip0; rw [stm_ix _ _ _ (by decide), stm_eq]); show 0 ≤ ip0 m 57 6 ∧ ip0 m 57 6 ≤ 0; omega)⟩) (fun j x hj0 hj hi => ipr_I (by omega) hi) (fun j x hj0 hj hi hk => ?_) (fun hi => ?_)
  · obtain ⟨g1, g2, g3, g4⟩ := hi
    have k1 := g1.sn hs; have k2 := g1.wds hwd; have k3 := congrFun g1.2.2.1 1
    have k4 : MR (im2 j x) := ((iw_MR g2 _ _).st (by omega)).st (by omega)
    have k5 := im2_57 j x
    have k6 : rg (sw x.2 j) := g2 _ _
    have k7 : stm (stm (iw x.2 j (sw x.2 j)) 59 j x.1) 57 5 (x.1 + 1) = im2 j x := rfl
    refine x_iload (i := 20) (pc' := 38) rfl rfl rfl ?_
    refine x_iload (i := 21) (pc' := 40) rfl rfl rfl ?_
    refine x_icmpge (i := 22) (pc' := 43) (tgt := 113) rfl rfl (by decide) (by first | omega | exact g2 _ _ | exact k4 _ _) (by first | omega | exact g2 _ _ | exact k4 _ _) (fun c1 => by exfalso; omega) (fun c1 => ?_)
    refine x_aload_n (i := 23) (pc' := 44) rfl rfl rfl rfl ?_
    refine x_iload (i := 24) (pc' := 46) rfl rfl rfl ?_
    refine m_callV (i := 25) (pc' := 49) (av := [_]) (rest := []) rfl rfl (by decide) lX4_58 (sh1 G) rfl rfl rfl rfl rfl (Nat.le_of_ble_eq_true rfl) (Nat.le_refl _) (Nat.le_refl _) (s_X9_sortOfWord k1 k2 (by omega) ?_)
    dsimp only [psh]
    refine x_istore (L' := [some _, some _, some _, some _, some _, some _, some _]) (i := 26) (pc' := 51) rfl rfl rfl (by decide) rfl ?_
    refine x_aload_n (i := 27) (pc' := 52) rfl rfl rfl rfl ?_
    refine x_aload_n (i := 28) (pc' := 53) rfl rfl rfl rfl ?_
    refine m_getf (i := 29) (pc' := 56) rfl rfl flX4_41 (sh1 G) rfl rfl ?_
    refine x_iload (i := 30) (pc' := 58) rfl rfl rfl ?_
    refine x_iload (i := 31) (pc' := 60) rfl rfl rfl ?_
    refine m_callV (i := 32) (pc' := 63) (av := [_, _, _]) (rest := []) rfl rfl (by decide) lX4_62 (sh57 G) rfl rfl rfl rfl rfl (Nat.le_of_ble_eq_true rfl) (Nat.le_refl _) (Nat.le_refl _) (s_X4_interpretWord g2 k1 (by omega) (g2 _ _) ?_)
    dsimp only [psh]
    refine x_aload_n (i := 33) (pc' := 64) rfl rfl rfl rfl ?_
    refine m_getf (i := 34) (pc' := 67) rfl rfl flX4_15 (sh57 G) rfl rfl ?_
    refine x_iload (i := 35) (pc' := 69) rfl rfl rfl ?_
    refine x_iload_n (i := 36) (pc' := 70) rfl rfl rfl rfl ?_
    refine m_iast (i := 37) (pc' := 71) rfl rfl (sh59 G) (by decide) ⟨by omega, by omega⟩ ?_
    refine x_aload_n (i := 38) (pc' := 72) rfl rfl rfl rfl ?_
    refine x_iload_n (i := 39) (pc' := 73) rfl rfl rfl rfl ?_
    refine x_iconst (i := 40) (pc' := 74) rfl rfl ?_
    refine x_iadd (i := 41) (pc' := 75) rfl rfl ?_
    refine m_putf (kz := 5) (i := 42) (pc' := 78) rfl rfl flX4_28 (sh57 G) (fun _ => rfl) rfl (Nat.le_of_ble_eq_true rfl) rfl rfl ?_
    rw [k7]
    refine x_iload (i := 43) (pc' := 80) rfl rfl rfl ?_
    refine x_iconst (i := 44) (pc' := 81) rfl rfl ?_
    refine x_icmpne (i := 45) (pc' := 84) (tgt := 87) rfl rfl (by decide) (by first | omega | exact g2 _ _ | exact k4 _ _) (by first | omega | exact g2 _ _ | exact k4 _ _) (fun c2 => ?_) (fun c2 => ?_)
    · skip
      refine x_aload_n (i := 47) (pc' := 88) rfl rfl rfl rfl ?_
      refine m_getf (i := 48) (pc' := 91) rfl rfl flX4_18 (sh57 G) rfl rfl ?_
      refine x_iload (i := 49) (pc' := 93) rfl rfl rfl ?_
      refine m_zald (i := 50) (pc' := 94) rfl rfl (sh60 G) (by decide) ⟨by omega, by omega⟩ ?_
      refine x_ifeq (i := 51) (pc' := 97) (tgt := 107) rfl rfl (by decide) (by first | omega | exact g2 _ _ | exact k4 _ _) (fun c3 => ?_) (fun c3 => ?_)
      · skip
        refine x_iinc (L' := [some _, some _, some _, some _, some _, some _, some _]) (i := 58) (pc' := 110) rfl rfl rfl rfl (by decide) rfl ?_
        refine x_goto (i := 59) (pc' := 36) rfl (by decide) ?_
        (unfold ipr at hk; first | exact hk | (refine AW.le ?_ hk; simp [lvle]; done) | ((repeat' split at hk) <;> first | exact hk | (refine AW.le ?_ hk; simp [lvle]; done) | (exfalso; omega)))
      · skip
        refine x_aload_n (i := 52) (pc' := 98) rfl rfl rfl rfl ?_
        refine x_dup (i := 53) (pc' := 99) rfl rfl rfl ?_
        refine m_getf (i := 54) (pc' := 102) rfl rfl flX4_32 (sh57 G) rfl rfl ?_
        refine x_iconst (i := 55) (pc' := 103) rfl rfl ?_
        refine x_iadd (i := 56) (pc' := 104) rfl rfl ?_
        refine m_putf (kz := 6) (i := 57) (pc' := 107) rfl rfl flX4_32 (sh57 G) (fun _ => rfl) rfl (Nat.le_of_ble_eq_true rfl) rfl rfl ?_
        refine x_iinc (L' := [some _, some _, some _, some _, some _, some _, some _]) (i := 58) (pc' := 110) rfl rfl rfl rfl (by decide) rfl ?_
        refine x_goto (i := 59) (pc' := 36) rfl (by decide) ?_
        (unfold ipr at hk; first | exact hk | (refine AW.le ?_ hk; simp [lvle]; done) | ((repeat' split at hk) <;> first | exact hk | (refine AW.le ?_ hk; simp [lvle]; done) | (exfalso; omega)))
    · skip
      refine x_iinc (L' := [some _, some _, some _, some _, some _, some _, some _]) (i := 46) (pc' := 87) rfl rfl rfl rfl (by decide) rfl ?_
      refine x_aload_n (i := 47) (pc' := 88) rfl rfl rfl rfl ?_
      refine m_getf (i := 48) (pc' := 91) rfl rfl flX4_18 (sh57 G) rfl rfl ?_
      refine x_iload (i := 49) (pc' := 93) rfl rfl rfl ?_
      refine m_zald (i := 50) (pc' := 94) rfl rfl (sh60 G) (by decide) ⟨by omega, by omega⟩ ?_
      refine x_ifeq (i := 51) (pc' := 97) (tgt := 107) rfl rfl (by decide) (by first | omega | exact g2 _ _ | exact k4 _ _) (fun c4 => ?_) (fun c4 => ?_)
      · skip
        refine x_iinc (L' := [some _, some _, some _, some _, some _, some _, some _]) (i := 58) (pc' := 110) rfl rfl rfl rfl (by decide) rfl ?_
        refine x_goto (i := 59) (pc' := 36) rfl (by decide) ?_
        (unfold ipr at hk; first | exact hk | (refine AW.le ?_ hk; simp [lvle]; done) | ((repeat' split at hk) <;> first | exact hk | (refine AW.le ?_ hk; simp [lvle]; done) | (exfalso; omega)))
      · skip
        refine x_aload_n (i := 52) (pc' := 98) rfl rfl rfl rfl ?_
        refine x_dup (i := 53) (pc' := 99) rfl rfl rfl ?_
        refine m_getf (i := 54) (pc' := 102) rfl rfl flX4_32 (sh57 G) rfl rfl ?_
        refine x_iconst (i := 55) (pc' := 103) rfl rfl ?_
        refine x_iadd (i := 56) (pc' := 104) rfl rfl ?_
        refine m_putf (kz := 6) (i := 57) (pc' := 107) rfl rfl flX4_32 (sh57 G) (fun _ => rfl) rfl (Nat.le_of_ble_eq_true rfl) rfl rfl ?_
        refine x_iinc (L' := [some _, some _, some _, some _, some _, some _, some _]) (i := 58) (pc' := 110) rfl rfl rfl rfl (by decide) rfl ?_
        refine x_goto (i := 59) (pc' := 36) rfl (by decide) ?_
        (unfold ipr at hk; first | exact hk | (refine AW.le ?_ hk; simp [lvle]; done) | ((repeat' split at hk) <;> first | exact hk | (refine AW.le ?_ hk; simp [lvle]; done) | (exfalso; omega)))
  · skip
    refine x_iload (i := 20) (pc' := 38) rfl rfl rfl ?_
    refine x_iload (i := 21) (pc' := 40) rfl rfl rfl ?_
    refine x_icmpge (i := 22) (pc' := 43) (tgt := 113) rfl rfl (by decide) ⟨by omega, by omega⟩ ⟨by omega, by omega⟩ (fun c1 => ?_) (fun c1 => by exfalso; omega)
    exact m_return (i := 60) rfl rfl (by rw [Int.sub_zero]; exact hQ)
