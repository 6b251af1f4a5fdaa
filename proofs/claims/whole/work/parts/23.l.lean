/-- the same signs, words and weights -/
def SX (m x : Mem) : Prop := SW m x ∧ x 4 = m 4
theorem SX.rf (m : Mem) : SX m m := ⟨SW.rf m, rfl⟩
theorem SX.st {m x : Mem} (h : SX m x) {q : Nat} (hq : (q ≠ 2 ∧ q ≠ 3 ∧ q ≠ 5 ∧ q ≠ 6) ∧ q ≠ 4) (k z : Int) : SX m (stm x q k z) := ⟨h.1.st hq.1 k z, by rw [stm_ne x k z (Ne.symm hq.2)]; exact h.2⟩
theorem SX.rvs {m x : Mem} (h : SX m x) (hv : RVs m) : RVs x := by unfold RVs RV; rw [h.1.1, h.1.2.1]; exact hv
theorem SX.wt {m x : Mem} (h : SX m x) (hw : WT m) : WT x := by unfold WT; rw [h.2]; exact hw
theorem SX.cn {m x : Mem} (h : SX m x) (hn : CN m) : CN x := by unfold CN; rw [h.1.1]; exact hn
theorem SX.fl {m : Mem} (q n : Nat) (v : Int) (h : q ≠ 2 ∧ q ≠ 3 ∧ q ≠ 4 ∧ q ≠ 5 ∧ q ≠ 6) : SX m (flm m q n v) := ⟨⟨flm_ne (Ne.symm h.1) _ _ _ _, flm_ne (Ne.symm h.2.1) _ _ _ _, flm_ne (Ne.symm h.2.2.2.1) _ _ _ _, flm_ne (Ne.symm h.2.2.2.2) _ _ _ _⟩, flm_ne (Ne.symm h.2.2.1) _ _ _ _⟩
def jn1 (a b k : Int) (x : Mem) : Mem := if x 71 k = b then stm x 71 k a else x
def jn (m : Mem) (a b n : Int) : Mem := it (fun k x => jn1 a b k x) 0 n.toNat m
def lbm (m : Mem) (n : Int) : Mem := it (fun k (x : Mem) => stm x 71 k k) 0 n.toNat m
def fj (d j k : Int) (x : Mem) : Mem := if ¬ x 71 j = x 71 k ∧ ds x j k ≤ d then jn x (x 71 j) (x 71 k) 16 else x
def frw (d n j : Int) (x : Mem) : Mem := it (fun k x => fj d j k x) (j + 1) (n - (j + 1)).toNat x
def fall (m : Mem) (d : Int) : Mem := it (fun j x => frw d (m 2 2) j x) 0 (m 2 2).toNat (lbm (flm m 72 16 0) 16)
def fsz (k : Int) (x : Mem) : Mem := stm x 72 (x 71 k) (x 72 (x 71 k) + 1)
def fdm (m : Mem) (d : Int) : Mem := it (fun k x => fsz k x) 0 (m 2 2).toNat (fall m d)
def FI (m : Mem) (x : Mem) : Prop := SX m x ∧ MR x ∧ (∀ k, 0 ≤ k → k < m 2 2 → 0 ≤ x 71 k ∧ x 71 k < m 2 2) ∧ x 72 = (flm m 72 16 0) 72
theorem jn1_I {m : Mem} {a b k : Int} {x : Mem} (ha : 0 ≤ a ∧ a < m 2 2) (ha2 : rg a) (h : FI m x) : FI m (jn1 a b k x) := by
  obtain ⟨h1, h2, h3, h4⟩ := h
  unfold jn1
  split
  · refine ⟨h1.st (by decide) _ _, h2.st ha2, fun i c1 c2 => ?_, (stm_ne x k a (by decide)).trans h4⟩
    by_cases hi : i = k
    · rw [hi, stm_eq]; exact ha
    · rw [stm_ix _ _ _ hi]; exact h3 i c1 c2
  · exact ⟨h1, h2, h3, h4⟩
theorem fj_I {m : Mem} (hn : CN m) {d j k : Int} {x : Mem} (hj : 0 ≤ j ∧ j < m 2 2) (h : FI m x) : FI m (fj d j k x) := by
  have h1 := hn.2
  have h2 := h.2.2.1 j hj.1 hj.2
  unfold fj
  split
  · exact it_I _ _ _ (fun i y _ _ hy => jn1_I h2 (by omega) hy) h
  · exact h
theorem frw_I {m : Mem} (hn : CN m) {d n j : Int} {x : Mem} (hj : 0 ≤ j ∧ j < m 2 2) (h : FI m x) : FI m (frw d n j x) := it_I _ _ _ (fun i y _ _ hy => fj_I hn hj hy) h
def LBI (m : Mem) (j : Int) (x : Mem) : Prop := SX m x ∧ MR x ∧ (∀ k, 0 ≤ k → k < j → x 71 k = k) ∧ x 72 = (flm m 72 16 0) 72
theorem lb_I {m : Mem} {j : Int} {x : Mem} (hj : 0 ≤ j ∧ j < 16) (h : LBI m j x) : LBI m (j + 1) (stm x 71 j j) := by
  obtain ⟨h1, h2, h3, h4⟩ := h
  refine ⟨h1.st (by decide) _ _, h2.st (by omega), fun i c1 c2 => ?_, (stm_ne x j j (by decide)).trans h4⟩
  by_cases hi : i = j
  · rw [hi, stm_eq]
  · rw [stm_ix _ _ _ hi]; exact h3 i c1 (by omega)
theorem lb_0 {m : Mem} (hM : MR m) : LBI m 0 (flm m 72 16 0) := ⟨SX.fl 72 16 0 (by decide), flm_MR (by decide) _ _ _ hM, fun k h1 h2 => by omega, rfl⟩
theorem lbm_In {m : Mem} (hM : MR m) {n : Int} (hn : 0 ≤ n ∧ n ≤ 16) : LBI m n (lbm (flm m 72 16 0) n) := by
  have := it_Ij (f := fun k (x : Mem) => stm x 71 k k) (fun k x => LBI m k x) n.toNat 0 (flm m 72 16 0) (fun i y a b c => lb_I (by omega) c) (lb_0 hM)
  rw [show (0 : Int) + (n.toNat : Int) = n by omega] at this
  exact this
theorem lbm_I {m : Mem} (hM : MR m) : LBI m 16 (lbm (flm m 72 16 0) 16) := lbm_In hM (by decide)
theorem fall_0 {m : Mem} (hM : MR m) (hn : CN m) : FI m (lbm (flm m 72 16 0) 16) := by
  have h2 := hn.2
  obtain ⟨a1, a2, a3, a4⟩ := lbm_I hM
  exact ⟨a1, a2, fun k c1 c2 => by rw [a3 k c1 (by omega)]; omega, a4⟩
theorem fall_I {m : Mem} (hM : MR m) (hn : CN m) (d : Int) : FI m (fall m d) := it_I _ _ _ (fun i y h1 h2 hy => frw_I hn (by have := hn.1; omega) hy) (fall_0 hM hn)
def FSI (m : Mem) (j : Int) (x : Mem) : Prop := SX m x ∧ MR x ∧ (∀ k, 0 ≤ k → k < m 2 2 → 0 ≤ x 71 k ∧ x 71 k < m 2 2) ∧ ∀ i, 0 ≤ i → i < 16 → 0 ≤ x 72 i ∧ x 72 i ≤ j
theorem fsz_I {m : Mem} (hn : CN m) {j : Int} {x : Mem} (hj : 0 ≤ j ∧ j < m 2 2) (h : FSI m j x) : FSI m (j + 1) (fsz j x) := by
  have g2 := hn.2
  obtain ⟨h1, h2, h3, h4⟩ := h
  have h5 := h3 j hj.1 hj.2
  have h6 := h4 (x 71 j) (by omega) (by omega)
  refine ⟨h1.st (by decide) _ _, h2.st (by omega), fun i c1 c2 => ?_, fun i c1 c2 => ?_⟩
  · unfold fsz; rw [stm_ne _ _ _ (by decide)]; exact h3 i c1 c2
  · have h7 := h4 i c1 c2
    unfold fsz
    by_cases hi : i = x 71 j
    · rw [hi, stm_eq]; omega
    · rw [stm_ix _ _ _ hi]; omega
theorem fs_0 {m : Mem} (hM : MR m) (hn : CN m) (d : Int) : FSI m 0 (fall m d) := by
  obtain ⟨a1, a2, a3, a4⟩ := fall_I hM hn d
  refine ⟨a1, a2, a3, fun i c1 c2 => ?_⟩
  rw [a4]
  have h9 := (fl_get (q := 72) (v := 0) 16 0 i m).1 (by omega)
  unfold flm
  omega
def nu (m : Mem) : Int := it (fun i x => if 0 < m 72 i then x + 1 else x) 0 16 0
def gre (m : Mem) : Int := it (fun i x => mx x (m 72 i)) 0 16 0
theorem s_X1_join {G : GG} {m : Mem} {Q : Option Value → Mem → Prop} {a b : Int} (hM : MR m) (h1 : rg a) (h2 : rg b) (hQ : Q none (jn m a b 16)) : CM G 0 mX1_join [.ref (G.2.2.2 70), .int (J (a)), .int (J (b))] m Q := by
  refine CM.of dkX1_join (Or.inl rfl) [some _, some _, some _, none] rfl (Nat.le_of_ble_eq_true rfl) ?_
  refine x_iconst (i := 0) (pc' := 1) rfl rfl ?_
  refine x_istore_n (L' := [some _, some _, some _, some _]) (i := 1) (pc' := 2) rfl rfl rfl rfl (by decide) rfl ?_
  skip
  refine up_ind1 (P := fun (j : Int) (x : Mem) => BW G 0 mX1_join Q 2 [some (.ref (G.2.2.2 70)), some (.int (J (a))), some (.int (J (b))), some (.int (J (j)))] [] x) (fun (j : Int) (x : Mem) => jn1 a b j x) (fun (j : Int) (x : Mem) => MR x) (16) (0) (m) (by omega) (hM) (fun j x hj0 hj hi => by (unfold jn1; split <;> first | exact hi.st h1 | exact hi)) (fun j x hj0 hj hi hk => ?_) (fun hi => ?_)
  · skip
    refine x_iload_n (i := 2) (pc' := 3) rfl rfl rfl rfl ?_
    refine x_bipush (i := 3) (pc' := 5) rfl rfl (by decide) ?_
    refine x_icmpge (i := 4) (pc' := 8) (tgt := 31) rfl rfl (by decide) (by first | omega | exact hi _ _) (by first | omega | exact hi _ _) (fun c1 => by exfalso; omega) (fun c1 => ?_)
    refine x_aload_n (i := 5) (pc' := 9) rfl rfl rfl rfl ?_
    refine m_getf (i := 6) (pc' := 12) rfl rfl flX1_9 (sh70 G) rfl rfl ?_
    refine x_iload_n (i := 7) (pc' := 13) rfl rfl rfl rfl ?_
    refine m_iald (i := 8) (pc' := 14) rfl rfl (sh71 G) (by decide) ⟨by omega, by omega⟩ ?_
    refine x_iload_n (i := 9) (pc' := 15) rfl rfl rfl rfl ?_
    refine x_icmpne (i := 10) (pc' := 18) (tgt := 25) rfl rfl (by decide) (by first | omega | exact hi _ _) (by first | omega | exact hi _ _) (fun c2 => ?_) (fun c2 => ?_)
    · skip
      refine x_iinc (L' := [some _, some _, some _, some _]) (i := 16) (pc' := 28) rfl rfl rfl rfl (by decide) rfl ?_
      refine x_goto (i := 17) (pc' := 2) rfl (by decide) ?_
      (unfold jn1 at hk; first | exact hk | (refine AW.le ?_ hk; simp [lvle]; done) | ((repeat' split at hk) <;> first | exact hk | (refine AW.le ?_ hk; simp [lvle]; done) | (exfalso; omega)))
    · skip
      refine x_aload_n (i := 11) (pc' := 19) rfl rfl rfl rfl ?_
      refine m_getf (i := 12) (pc' := 22) rfl rfl flX1_9 (sh70 G) rfl rfl ?_
      refine x_iload_n (i := 13) (pc' := 23) rfl rfl rfl rfl ?_
      refine x_iload_n (i := 14) (pc' := 24) rfl rfl rfl rfl ?_
      refine m_iast (i := 15) (pc' := 25) rfl rfl (sh71 G) (by decide) ⟨by omega, by omega⟩ ?_
      refine x_iinc (L' := [some _, some _, some _, some _]) (i := 16) (pc' := 28) rfl rfl rfl rfl (by decide) rfl ?_
      refine x_goto (i := 17) (pc' := 2) rfl (by decide) ?_
      (unfold jn1 at hk; first | exact hk | (refine AW.le ?_ hk; simp [lvle]; done) | ((repeat' split at hk) <;> first | exact hk | (refine AW.le ?_ hk; simp [lvle]; done) | (exfalso; omega)))
  · skip
    refine x_iload_n (i := 2) (pc' := 3) rfl rfl rfl rfl ?_
    refine x_bipush (i := 3) (pc' := 5) rfl rfl (by decide) ?_
    refine x_icmpge (i := 4) (pc' := 8) (tgt := 31) rfl rfl (by decide) ⟨by omega, by omega⟩ ⟨by omega, by omega⟩ (fun c1 => ?_) (fun c1 => by exfalso; omega)
    exact m_return (i := 18) rfl rfl (by rw [Int.sub_zero]; exact hQ)
theorem s_X1_enlarge {G : GG} {m : Mem} {Q : Option Value → Mem → Prop} {a : Int} (ha : 0 ≤ a ∧ a ≤ 15) (hQ : Q none (stm m 72 a (m 72 a + 1))) : CM G 1 mX1_enlarge [.ref (G.2.2.2 70), .int (J (a))] m Q := by
  refine CM.of dkX1_enlarge (Or.inl rfl) [some _, some _] rfl (Nat.le_of_ble_eq_true rfl) ?_
  refine x_iload_n (i := 0) (pc' := 1) rfl rfl rfl rfl ?_
  refine x_iconst (i := 1) (pc' := 2) rfl rfl ?_
  refine x_bipush (i := 2) (pc' := 4) rfl rfl (by decide) ?_
  refine m_callS (i := 3) (pc' := 7) (av := [_, _, _]) (rest := []) rfl rfl (by decide) lX1_47 rfl rfl (Nat.le_of_ble_eq_true rfl) (Nat.le_refl _) (Nat.le_refl _) (s_X11_isWithin (by omega) (by omega) (by omega) ?_)
  dsimp only [psh]
  refine x_ifeq (i := 4) (pc' := 10) (tgt := 20) rfl rfl (by decide) (by (repeat' split at *) <;> omega) (fun c1 => by exfalso; (repeat' split at *) <;> omega) (fun c1 => ?_)
  refine x_aload_n (i := 5) (pc' := 11) rfl rfl rfl rfl ?_
  refine m_getf (i := 6) (pc' := 14) rfl rfl flX1_15 (sh70 G) rfl rfl ?_
  refine x_iload_n (i := 7) (pc' := 15) rfl rfl rfl rfl ?_
  refine x_dup2 (i := 8) (pc' := 16) rfl rfl rfl rfl ?_
  refine m_iald (i := 9) (pc' := 17) rfl rfl (sh72 G) (by decide) ⟨by omega, by omega⟩ ?_
  refine x_iconst (i := 10) (pc' := 18) rfl rfl ?_
  refine x_iadd (i := 11) (pc' := 19) rfl rfl ?_
  refine m_iast (i := 12) (pc' := 20) rfl rfl (sh72 G) (by decide) ⟨by omega, by omega⟩ ?_
  exact m_return (i := 13) rfl rfl (hQ)
theorem s_X1_find {G : GG} {m : Mem} {Q : Option Value → Mem → Prop} {d : Int} (hM : MR m) (hn : CN m) (hv : RVs m) (hw : WT m) (hd : rg d) (hQ : Q none (fdm m d)) : CM G 3 mX1_find [.ref (G.2.2.2 70), .ref (G.2.2.2 2), .int (J (d))] m Q := by
  refine CM.of dkX1_find (Or.inl rfl) [some _, some _, some _, none, none, none] rfl (Nat.le_of_ble_eq_true rfl) ?_
  have hn0 := hn.1; have hn1 := hn.2
  have ec : mn (flm m 72 16 0 2 2) 16 = m 2 2 := (by rw [show flm m 72 16 0 2 = m 2 from flm_ne (by decide) _ _ _ _]; unfold mn; split <;> omega)
  have e2 : flm m 72 16 0 2 2 = m 2 2 := congrFun (flm_ne (by decide) _ _ _ _) 2
  refine x_aload_n (i := 0) (pc' := 1) rfl rfl rfl rfl ?_
  refine m_getf (i := 1) (pc' := 4) rfl rfl flX1_15 (sh70 G) rfl rfl ?_
  refine x_iconst (i := 2) (pc' := 5) rfl rfl ?_
  refine m_callS (i := 3) (pc' := 8) (av := [_, _]) (rest := []) rfl rfl (by decide) lX1_18 rfl rfl (Nat.le_of_ble_eq_true rfl) (Nat.le_refl _) (Nat.le_refl _) (s_fill_72 ?_)
  dsimp only [psh]
  refine x_aload_n (i := 4) (pc' := 9) rfl rfl rfl rfl ?_
  refine m_getf (i := 5) (pc' := 12) rfl rfl flX1_24 (sh2 G) rfl rfl ?_
  refine x_bipush (i := 6) (pc' := 14) rfl rfl (by decide) ?_
  refine m_callS (i := 7) (pc' := 17) (av := [_, _]) (rest := []) rfl rfl (by decide) lX1_30 rfl rfl (Nat.le_of_ble_eq_true rfl) (Nat.le_refl _) (Nat.le_refl _) (s_J9_min_7cf53 (by omega) (by omega) ?_)
  dsimp only [psh]
  rw [ec]
  refine x_istore_n (L' := [some _, some _, some _, some _, none, none]) (i := 8) (pc' := 18) rfl rfl rfl rfl (by decide) rfl ?_
  refine x_iconst (i := 9) (pc' := 19) rfl rfl ?_
  refine x_istore (L' := [some _, some _, some _, some _, some _, none]) (i := 10) (pc' := 21) rfl rfl rfl (by decide) rfl ?_
  skip
  refine up_ind1 (P := fun (j : Int) (x : Mem) => BW G 3 mX1_find Q 21 [some (.ref (G.2.2.2 70)), some (.ref (G.2.2.2 2)), some (.int (J (d))), some (.int (J (m 2 2))), some (.int (J (j))), none] [] x) (fun (j : Int) (x : Mem) => stm x 71 j j) (fun (j : Int) (x : Mem) => LBI m j x) (16) (0) (flm m 72 16 0) (by omega) (lb_0 hM) (fun j x hj0 hj hi => lb_I (by omega) hi) (fun j x hj0 hj hi hk => ?_) (fun hi => ?_)
  · skip
    refine x_iload (i := 11) (pc' := 23) rfl rfl rfl ?_
    refine x_bipush (i := 12) (pc' := 25) rfl rfl (by decide) ?_
    refine x_icmpge (i := 13) (pc' := 28) (tgt := 43) rfl rfl (by decide) ⟨by omega, by omega⟩ ⟨by omega, by omega⟩ (fun i1 => by exfalso; omega) (fun i1 => ?_)
    refine x_aload_n (i := 14) (pc' := 29) rfl rfl rfl rfl ?_
    refine m_getf (i := 15) (pc' := 32) rfl rfl flX1_9 (sh70 G) rfl rfl ?_
    refine x_iload (i := 16) (pc' := 34) rfl rfl rfl ?_
    refine x_iload (i := 17) (pc' := 36) rfl rfl rfl ?_
    refine m_iast (i := 18) (pc' := 37) rfl rfl (sh71 G) (by decide) ⟨by omega, by omega⟩ ?_
    refine x_iinc (L' := [some _, some _, some _, some _, some _, none]) (i := 19) (pc' := 40) rfl rfl rfl rfl (by decide) rfl ?_
    refine x_goto (i := 20) (pc' := 21) rfl (by decide) ?_
    (first | exact hk | (refine AW.le ?_ hk; simp [lvle]; done) | ((repeat' split at hk) <;> first | exact hk | (refine AW.le ?_ hk; simp [lvle]; done) | (exfalso; omega)))
  · skip
    refine x_iload (i := 11) (pc' := 23) rfl rfl rfl ?_
    refine x_bipush (i := 12) (pc' := 25) rfl rfl (by decide) ?_
    refine x_icmpge (i := 13) (pc' := 28) (tgt := 43) rfl rfl (by decide) ⟨by omega, by omega⟩ ⟨by omega, by omega⟩ (fun j1 => ?_) (fun j1 => by exfalso; omega)
    refine x_iconst (i := 21) (pc' := 44) rfl rfl ?_
    refine x_istore (L' := [some _, some _, some _, some _, some _, none]) (i := 22) (pc' := 46) rfl rfl rfl (by decide) rfl ?_
    rw [Int.sub_zero]
    refine up_ind1 (P := fun (j : Int) (x : Mem) => BW G 3 mX1_find Q 46 [some (.ref (G.2.2.2 70)), some (.ref (G.2.2.2 2)), some (.int (J (d))), some (.int (J (m 2 2))), some (.int (J (j))), none] [] x) (fun (j : Int) (x : Mem) => frw d (m 2 2) j x) (fun (j : Int) (x : Mem) => FI m x) (m 2 2) (0) (lbm (flm m 72 16 0) 16) (by omega) (fall_0 hM hn) (fun j x hj0 hj hi => frw_I hn (by omega) hi) (fun j x hj0 hj hi hk => ?_) (fun hi => ?_)
    · skip
      refine x_iload (i := 23) (pc' := 48) rfl rfl rfl ?_
      refine x_iload_n (i := 24) (pc' := 49) rfl rfl rfl rfl ?_
      refine x_icmpge (i := 25) (pc' := 52) (tgt := 123) rfl rfl (by decide) ⟨by omega, by omega⟩ ⟨by omega, by omega⟩ (fun g1 => by exfalso; omega) (fun g1 => ?_)
      refine x_iload (i := 26) (pc' := 54) rfl rfl rfl ?_
      refine x_iconst (i := 27) (pc' := 55) rfl rfl ?_
      refine x_iadd (i := 28) (pc' := 56) rfl rfl ?_
      refine x_istore (L' := [some _, some _, some _, some _, some _, some _]) (i := 29) (pc' := 58) rfl rfl rfl (by decide) rfl ?_
      refine up_ind1 (P := fun (k : Int) (y : Mem) => BW G 3 mX1_find Q 58 [some (.ref (G.2.2.2 70)), some (.ref (G.2.2.2 2)), some (.int (J (d))), some (.int (J (m 2 2))), some (.int (J (j))), some (.int (J (k)))] [] y) (fun (k : Int) (y : Mem) => fj d j k y) (fun (k : Int) (y : Mem) => FI m y) (m 2 2) (j + 1) (x) (by omega) (hi) (fun k y hj02 hj2 hi2 => fj_I hn (by omega) hi2) (fun k y hj02 hj2 hi2 hk2 => ?_) (fun hi2 => ?_)
      · obtain ⟨g1, g2, g3, g4⟩ := hi2
        have k3 := congrFun g1.1.1 2
        have v1 := g1.rvs hv; have v2 := g1.wt hw
        have u1 := v1 j (by omega) (by omega); have u2 := v1 k (by omega) (by omega)
        have hdd := ds_le u1 u2 v2
        have g5 := g3 j (by omega) (by omega); have g6 := g3 k (by omega) (by omega)
        refine x_iload (i := 30) (pc' := 60) rfl rfl rfl ?_
        refine x_iload_n (i := 31) (pc' := 61) rfl rfl rfl rfl ?_
        refine x_icmpge (i := 32) (pc' := 64) (tgt := 117) rfl rfl (by decide) ⟨by omega, by omega⟩ ⟨by omega, by omega⟩ (fun e1 => by exfalso; omega) (fun e1 => ?_)
        refine x_aload_n (i := 33) (pc' := 65) rfl rfl rfl rfl ?_
        refine m_getf (i := 34) (pc' := 68) rfl rfl flX1_9 (sh70 G) rfl rfl ?_
        refine x_iload (i := 35) (pc' := 70) rfl rfl rfl ?_
        refine m_iald (i := 36) (pc' := 71) rfl rfl (sh71 G) (by decide) ⟨by omega, by omega⟩ ?_
        refine x_aload_n (i := 37) (pc' := 72) rfl rfl rfl rfl ?_
        refine m_getf (i := 38) (pc' := 75) rfl rfl flX1_9 (sh70 G) rfl rfl ?_
        refine x_iload (i := 39) (pc' := 77) rfl rfl rfl ?_
        refine m_iald (i := 40) (pc' := 78) rfl rfl (sh71 G) (by decide) ⟨by omega, by omega⟩ ?_
        refine x_icmpeq (i := 41) (pc' := 81) (tgt := 111) rfl rfl (by decide) ⟨by omega, by omega⟩ ⟨by omega, by omega⟩ (fun e2 => ?_) (fun e2 => ?_)
        · skip
          refine x_iinc (L' := [some _, some _, some _, some _, some _, some _]) (i := 58) (pc' := 114) rfl rfl rfl rfl (by decide) rfl ?_
          refine x_goto (i := 59) (pc' := 58) rfl (by decide) ?_
          (unfold fj at hk2; first | exact hk2 | (refine AW.le ?_ hk2; simp [lvle]; done) | ((repeat' split at hk2) <;> first | exact hk2 | (refine AW.le ?_ hk2; simp [lvle]; done) | (exfalso; omega)))
        · skip
          refine x_aload_n (i := 42) (pc' := 82) rfl rfl rfl rfl ?_
          refine x_iload (i := 43) (pc' := 84) rfl rfl rfl ?_
          refine x_iload (i := 44) (pc' := 86) rfl rfl rfl ?_
          refine m_callV (i := 45) (pc' := 89) (av := [_, _]) (rest := []) rfl rfl (by decide) lX1_36 (sh2 G) rfl rfl rfl rfl rfl (Nat.le_of_ble_eq_true rfl) (Nat.le_refl _) (Nat.le_refl _) (s_X3_distance (by omega) (by omega) u1 u2 ?_)
          dsimp only [psh]
          refine x_iload_n (i := 46) (pc' := 90) rfl rfl rfl rfl ?_
          refine x_icmpgt (i := 47) (pc' := 93) (tgt := 111) rfl rfl (by decide) ⟨by omega, by omega⟩ ⟨by omega, by omega⟩ (fun e3 => ?_) (fun e3 => ?_)
          · skip
            refine x_iinc (L' := [some _, some _, some _, some _, some _, some _]) (i := 58) (pc' := 114) rfl rfl rfl rfl (by decide) rfl ?_
            refine x_goto (i := 59) (pc' := 58) rfl (by decide) ?_
            (unfold fj at hk2; first | exact hk2 | (refine AW.le ?_ hk2; simp [lvle]; done) | ((repeat' split at hk2) <;> first | exact hk2 | (refine AW.le ?_ hk2; simp [lvle]; done) | (exfalso; omega)))
          · skip
            refine x_aload_n (i := 48) (pc' := 94) rfl rfl rfl rfl ?_
            refine x_aload_n (i := 49) (pc' := 95) rfl rfl rfl rfl ?_
            refine m_getf (i := 50) (pc' := 98) rfl rfl flX1_9 (sh70 G) rfl rfl ?_
            refine x_iload (i := 51) (pc' := 100) rfl rfl rfl ?_
            refine m_iald (i := 52) (pc' := 101) rfl rfl (sh71 G) (by decide) ⟨by omega, by omega⟩ ?_
            refine x_aload_n (i := 53) (pc' := 102) rfl rfl rfl rfl ?_
            refine m_getf (i := 54) (pc' := 105) rfl rfl flX1_9 (sh70 G) rfl rfl ?_
            refine x_iload (i := 55) (pc' := 107) rfl rfl rfl ?_
            refine m_iald (i := 56) (pc' := 108) rfl rfl (sh71 G) (by decide) ⟨by omega, by omega⟩ ?_
            refine m_callV (i := 57) (pc' := 111) (av := [_, _]) (rest := []) rfl rfl (by decide) lX1_39 (sh70 G) rfl rfl rfl rfl rfl (Nat.le_of_ble_eq_true rfl) (Nat.le_refl _) (Nat.le_refl _) (s_X1_join g2 (by omega) (by omega) ?_)
            dsimp only [psh]
            refine x_iinc (L' := [some _, some _, some _, some _, some _, some _]) (i := 58) (pc' := 114) rfl rfl rfl rfl (by decide) rfl ?_
            refine x_goto (i := 59) (pc' := 58) rfl (by decide) ?_
            (unfold fj at hk2; first | exact hk2 | (refine AW.le ?_ hk2; simp [lvle]; done) | ((repeat' split at hk2) <;> first | exact hk2 | (refine AW.le ?_ hk2; simp [lvle]; done) | (exfalso; omega)))
      · skip
        refine x_iload (i := 30) (pc' := 60) rfl rfl rfl ?_
        refine x_iload_n (i := 31) (pc' := 61) rfl rfl rfl rfl ?_
        refine x_icmpge (i := 32) (pc' := 64) (tgt := 117) rfl rfl (by decide) ⟨by omega, by omega⟩ ⟨by omega, by omega⟩ (fun f1 => ?_) (fun f1 => by exfalso; omega)
        refine x_iinc (L' := [some _, some _, some _, some _, some _, some _]) (i := 60) (pc' := 120) rfl rfl rfl rfl (by decide) rfl ?_
        refine x_goto (i := 61) (pc' := 46) rfl (by decide) ?_
        (unfold frw at hk; first | exact hk | (refine AW.le ?_ hk; simp [lvle]; done) | ((repeat' split at hk) <;> first | exact hk | (refine AW.le ?_ hk; simp [lvle]; done) | (exfalso; omega)))
    · skip
      refine x_iload (i := 23) (pc' := 48) rfl rfl rfl ?_
      refine x_iload_n (i := 24) (pc' := 49) rfl rfl rfl rfl ?_
      refine x_icmpge (i := 25) (pc' := 52) (tgt := 123) rfl rfl (by decide) ⟨by omega, by omega⟩ ⟨by omega, by omega⟩ (fun h1 => ?_) (fun h1 => by exfalso; omega)
      refine x_iconst (i := 62) (pc' := 124) rfl rfl ?_
      refine x_istore (L' := [some _, some _, some _, some _, some _, none]) (i := 63) (pc' := 126) rfl rfl rfl (by decide) rfl ?_
      rw [Int.sub_zero]
      refine up_ind1 (P := fun (j : Int) (x : Mem) => BW G 3 mX1_find Q 126 [some (.ref (G.2.2.2 70)), some (.ref (G.2.2.2 2)), some (.int (J (d))), some (.int (J (m 2 2))), some (.int (J (j))), none] [] x) (fun (j : Int) (x : Mem) => fsz j x) (fun (j : Int) (x : Mem) => FSI m j x) (m 2 2) (0) (fall m d) (by omega) (fs_0 hM hn d) (fun j x hj0 hj hi => fsz_I hn (by omega) hi) (fun j x hj0 hj hi hk => ?_) (fun hi => ?_)
      · obtain ⟨g1, g2, g3, g4⟩ := hi
        have k3 := congrFun g1.1.1 2
        have g5 := g3 j (by omega) (by omega)
        refine x_iload (i := 64) (pc' := 128) rfl rfl rfl ?_
        refine x_iload_n (i := 65) (pc' := 129) rfl rfl rfl rfl ?_
        refine x_icmpge (i := 66) (pc' := 132) (tgt := 149) rfl rfl (by decide) ⟨by omega, by omega⟩ ⟨by omega, by omega⟩ (fun s1 => by exfalso; omega) (fun s1 => ?_)
        refine x_aload_n (i := 67) (pc' := 133) rfl rfl rfl rfl ?_
        refine x_aload_n (i := 68) (pc' := 134) rfl rfl rfl rfl ?_
        refine m_getf (i := 69) (pc' := 137) rfl rfl flX1_9 (sh70 G) rfl rfl ?_
        refine x_iload (i := 70) (pc' := 139) rfl rfl rfl ?_
        refine m_iald (i := 71) (pc' := 140) rfl rfl (sh71 G) (by decide) ⟨by omega, by omega⟩ ?_
        refine m_callV (i := 72) (pc' := 143) (av := [_]) (rest := []) rfl rfl (by decide) lX1_43 (sh70 G) rfl rfl rfl rfl rfl (Nat.le_of_ble_eq_true rfl) (Nat.le_refl _) (Nat.le_refl _) (s_X1_enlarge (by omega) ?_)
        dsimp only [psh]
        refine x_iinc (L' := [some _, some _, some _, some _, some _, none]) (i := 73) (pc' := 146) rfl rfl rfl rfl (by decide) rfl ?_
        refine x_goto (i := 74) (pc' := 126) rfl (by decide) ?_
        (unfold fsz at hk; first | exact hk | (refine AW.le ?_ hk; simp [lvle]; done) | ((repeat' split at hk) <;> first | exact hk | (refine AW.le ?_ hk; simp [lvle]; done) | (exfalso; omega)))
      · skip
        refine x_iload (i := 64) (pc' := 128) rfl rfl rfl ?_
        refine x_iload_n (i := 65) (pc' := 129) rfl rfl rfl rfl ?_
        refine x_icmpge (i := 66) (pc' := 132) (tgt := 149) rfl rfl (by decide) ⟨by omega, by omega⟩ ⟨by omega, by omega⟩ (fun t1 => ?_) (fun t1 => by exfalso; omega)
        exact m_return (i := 75) rfl rfl (by rw [Int.sub_zero]; exact hQ)
theorem s_X1_number {G : GG} {m : Mem} {Q : Option Value → Mem → Prop} (hM : MR m) (hQ : Q (some (.int (J (nu m)))) m) : CM G 0 mX1_number [.ref (G.2.2.2 70)] m Q := by
  refine CM.of dkX1_number (Or.inl rfl) [some _, none, none, none, none, none] rfl (Nat.le_of_ble_eq_true rfl) ?_
  refine x_iconst (i := 0) (pc' := 1) rfl rfl ?_
  refine x_istore_n (L' := [some _, some _, none, none, none, none]) (i := 1) (pc' := 2) rfl rfl rfl rfl (by decide) rfl ?_
  refine x_aload_n (i := 2) (pc' := 3) rfl rfl rfl rfl ?_
  refine m_getf (i := 3) (pc' := 6) rfl rfl flX1_15 (sh70 G) rfl rfl ?_
  refine x_astore_n (L' := [some _, some _, some _, none, none, none]) (i := 4) (pc' := 7) rfl rfl rfl rfl (by decide) rfl ?_
  refine x_aload_n (i := 5) (pc' := 8) rfl rfl rfl rfl ?_
  refine m_alen (i := 6) (pc' := 9) rfl rfl (sh72 G) ?_
  refine x_istore_n (L' := [some _, some _, some _, some _, none, none]) (i := 7) (pc' := 10) rfl rfl rfl rfl (by decide) rfl ?_
  refine x_iconst (i := 8) (pc' := 11) rfl rfl ?_
  refine x_istore (L' := [some _, some _, some _, some _, some _, none]) (i := 9) (pc' := 13) rfl rfl rfl (by decide) rfl ?_
  skip
  refine up_ind1 (P := fun (j : Int) (x : Int) => BW G 0 mX1_number Q 13 [some (.ref (G.2.2.2 70)), some (.int (J (x))), some (.ref (G.2.2.2 72)), some (.int (J (((16 : Nat) : Int)))), some (.int (J (j))), none] [] m) (fun (j : Int) (x : Int) => if 0 < m 72 j then x + 1 else x) (fun (j : Int) (x : Int) => 0 ≤ x ∧ x ≤ j) (16) (0) (0) (by omega) (by omega) (fun j x hj0 hj hi => by (split <;> omega)) (fun j x hj0 hj hi hk => ?_) (fun hi => ?_)
  · skip
    refine x_iload (i := 10) (pc' := 15) rfl rfl rfl ?_
    refine x_iload_n (i := 11) (pc' := 16) rfl rfl rfl rfl ?_
    refine x_icmpge (i := 12) (pc' := 19) (tgt := 39) rfl rfl (by decide) (by first | omega | exact hM _ _) (by first | omega | exact hM _ _) (fun c1 => by exfalso; omega) (fun c1 => ?_)
    refine x_aload_n (i := 13) (pc' := 20) rfl rfl rfl rfl ?_
    refine x_iload (i := 14) (pc' := 22) rfl rfl rfl ?_
    refine m_iald (i := 15) (pc' := 23) rfl rfl (sh72 G) (by decide) ⟨by omega, by omega⟩ ?_
    refine x_istore (L' := [some _, some _, some _, some _, some _, some _]) (i := 16) (pc' := 25) rfl rfl rfl (by decide) rfl ?_
    refine x_iload (i := 17) (pc' := 27) rfl rfl rfl ?_
    refine x_ifle (i := 18) (pc' := 30) (tgt := 33) rfl rfl (by decide) (by first | omega | exact hM _ _) (fun c2 => ?_) (fun c2 => ?_)
    · skip
      refine x_iinc (L' := [some _, some _, some _, some _, some _, some _]) (i := 20) (pc' := 36) rfl rfl rfl rfl (by decide) rfl ?_
      refine x_goto (i := 21) (pc' := 13) rfl (by decide) ?_
      (first | exact hk | (refine AW.le ?_ hk; simp [lvle]; done) | ((repeat' split at hk) <;> first | exact hk | (refine AW.le ?_ hk; simp [lvle]; done) | (exfalso; omega)))
    · skip
      refine x_iinc (L' := [some _, some _, some _, some _, some _, some _]) (i := 19) (pc' := 33) rfl rfl rfl rfl (by decide) rfl ?_
      refine x_iinc (L' := [some _, some _, some _, some _, some _, some _]) (i := 20) (pc' := 36) rfl rfl rfl rfl (by decide) rfl ?_
      refine x_goto (i := 21) (pc' := 13) rfl (by decide) ?_
      (first | exact hk | (refine AW.le ?_ hk; simp [lvle]; done) | ((repeat' split at hk) <;> first | exact hk | (refine AW.le ?_ hk; simp [lvle]; done) | (exfalso; omega)))
  · skip
    refine x_iload (i := 10) (pc' := 15) rfl rfl rfl ?_
    refine x_iload_n (i := 11) (pc' := 16) rfl rfl rfl rfl ?_
    refine x_icmpge (i := 12) (pc' := 19) (tgt := 39) rfl rfl (by decide) ⟨by omega, by omega⟩ ⟨by omega, by omega⟩ (fun c1 => ?_) (fun c1 => by exfalso; omega)
    refine x_iload_n (i := 22) (pc' := 40) rfl rfl rfl rfl ?_
    exact m_ireturn (i := 23) rfl rfl (hQ)
theorem s_X1_greatest {G : GG} {m : Mem} {Q : Option Value → Mem → Prop} (hM : MR m) (hQ : Q (some (.int (J (gre m)))) m) : CM G 1 mX1_greatest [.ref (G.2.2.2 70)] m Q := by
  refine CM.of dkX1_greatest (Or.inl rfl) [some _, none, none, none, none, none] rfl (Nat.le_of_ble_eq_true rfl) ?_
  refine x_iconst (i := 0) (pc' := 1) rfl rfl ?_
  refine x_istore_n (L' := [some _, some _, none, none, none, none]) (i := 1) (pc' := 2) rfl rfl rfl rfl (by decide) rfl ?_
  refine x_aload_n (i := 2) (pc' := 3) rfl rfl rfl rfl ?_
  refine m_getf (i := 3) (pc' := 6) rfl rfl flX1_15 (sh70 G) rfl rfl ?_
  refine x_astore_n (L' := [some _, some _, some _, none, none, none]) (i := 4) (pc' := 7) rfl rfl rfl rfl (by decide) rfl ?_
  refine x_aload_n (i := 5) (pc' := 8) rfl rfl rfl rfl ?_
  refine m_alen (i := 6) (pc' := 9) rfl rfl (sh72 G) ?_
  refine x_istore_n (L' := [some _, some _, some _, some _, none, none]) (i := 7) (pc' := 10) rfl rfl rfl rfl (by decide) rfl ?_
  refine x_iconst (i := 8) (pc' := 11) rfl rfl ?_
  refine x_istore (L' := [some _, some _, some _, some _, some _, none]) (i := 9) (pc' := 13) rfl rfl rfl (by decide) rfl ?_
  skip
  refine up_ind1 (P := fun (j : Int) (x : Int) => BW G 1 mX1_greatest Q 13 [some (.ref (G.2.2.2 70)), some (.int (J (x))), some (.ref (G.2.2.2 72)), some (.int (J (((16 : Nat) : Int)))), some (.int (J (j))), none] [] m) (fun (j : Int) (x : Int) => mx x (m 72 j)) (fun (j : Int) (x : Int) => rg x) (16) (0) (0) (by omega) (by omega) (fun j x hj0 hj hi => by (unfold mx; split <;> first | exact hM _ _ | exact hi)) (fun j x hj0 hj hi hk => ?_) (fun hi => ?_)
  · skip
    refine x_iload (i := 10) (pc' := 15) rfl rfl rfl ?_
    refine x_iload_n (i := 11) (pc' := 16) rfl rfl rfl rfl ?_
    refine x_icmpge (i := 12) (pc' := 19) (tgt := 38) rfl rfl (by decide) (by first | omega | exact hM _ _) (by first | omega | exact hM _ _) (fun c1 => by exfalso; omega) (fun c1 => ?_)
    refine x_aload_n (i := 13) (pc' := 20) rfl rfl rfl rfl ?_
    refine x_iload (i := 14) (pc' := 22) rfl rfl rfl ?_
    refine m_iald (i := 15) (pc' := 23) rfl rfl (sh72 G) (by decide) ⟨by omega, by omega⟩ ?_
    refine x_istore (L' := [some _, some _, some _, some _, some _, some _]) (i := 16) (pc' := 25) rfl rfl rfl (by decide) rfl ?_
    refine x_iload_n (i := 17) (pc' := 26) rfl rfl rfl rfl ?_
    refine x_iload (i := 18) (pc' := 28) rfl rfl rfl ?_
    refine m_callS (i := 19) (pc' := 31) (av := [_, _]) (rest := []) rfl rfl (by decide) lX1_51 rfl rfl (Nat.le_of_ble_eq_true rfl) (Nat.le_refl _) (Nat.le_refl _) (s_J9_max_7cf53 (by first | omega | exact hM _ _) (by first | omega | exact hM _ _) ?_)
    dsimp only [psh]
    refine x_istore_n (L' := [some _, some _, some _, some _, some _, some _]) (i := 20) (pc' := 32) rfl rfl rfl rfl (by decide) rfl ?_
    refine x_iinc (L' := [some _, some _, some _, some _, some _, some _]) (i := 21) (pc' := 35) rfl rfl rfl rfl (by decide) rfl ?_
    refine x_goto (i := 22) (pc' := 13) rfl (by decide) ?_
    (first | exact hk | (refine AW.le ?_ hk; simp [lvle]; done) | ((repeat' split at hk) <;> first | exact hk | (refine AW.le ?_ hk; simp [lvle]; done) | (exfalso; omega)))
  · skip
    refine x_iload (i := 10) (pc' := 15) rfl rfl rfl ?_
    refine x_iload_n (i := 11) (pc' := 16) rfl rfl rfl rfl ?_
    refine x_icmpge (i := 12) (pc' := 19) (tgt := 38) rfl rfl (by decide) ⟨by omega, by omega⟩ ⟨by omega, by omega⟩ (fun c1 => ?_) (fun c1 => by exfalso; omega)
    refine x_iload_n (i := 23) (pc' := 39) rfl rfl rfl rfl ?_
    exact m_ireturn (i := 24) rfl rfl (hQ)
