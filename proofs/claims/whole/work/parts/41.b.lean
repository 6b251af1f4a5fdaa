theorem mcp_lo (m : Mem) (a b : Int) {i : Int} (h : i < b) : mcp m a b 77 i = m 77 i := by
  have key : ∀ (n : Nat) (j : Int) (x : Mem), 0 ≤ j → it (fun k (x : Mem) => stm x 77 (b + k) (x 77 (a + k))) j n x 77 i = x 77 i := by
    intro n
    induction n with
    | zero => intro j x _; rfl
    | succ n ih => intro j x hj; rw [it, ih _ _ (by omega), stm_ix _ _ _ (by omega)]
  exact key 140 0 m (by omega)
theorem md0_lo (m : Mem) {i : Int} (h : i < 140) : md0 m 77 i = m 77 i := by
  have key : ∀ (n : Nat) (j : Int) (x : Mem), 0 ≤ j → it (fun k (x : Mem) => stm x 77 (140 + k) (x 77 (280 + k))) j n x 77 i = x 77 i := by
    intro n
    induction n with
    | zero => intro j x _; rfl
    | succ n ih => intro j x hj; rw [it, ih _ _ (by omega), stm_ix _ _ _ (by omega)]
  exact key 560 0 m (by omega)
theorem md1_lo (m : Mem) {i : Int} (h : i < 140) : md1 m 77 i = m 77 i := by
  unfold md1
  split
  · rw [stm_ne _ _ _ (by decide), md0_lo m h]
  · rfl
theorem md1_st {m : Mem} (h : 0 ≤ m 76 1 ∧ m 76 1 ≤ 5) : 0 ≤ md1 m 76 1 ∧ md1 m 76 1 ≤ 4 := by
  unfold md1
  split
  · rw [stm_eq, md0_ne m (by decide)]; omega
  · omega
theorem mdm_lo {m : Mem} (hs : 0 ≤ m 76 1 ∧ m 76 1 ≤ 5) {i : Int} (h : i < 140) : mdm m 77 i = m 77 i := by
  have := md1_st hs
  unfold mdm
  rw [stm_ne _ _ _ (by decide), mcp_lo _ _ _ (by omega), md1_lo m h]
theorem mdm_ne (m : Mem) {q : Nat} (h : q ≠ 76) (h2 : q ≠ 77) : mdm m q = m q := by
  unfold mdm md1
  rw [stm_ne _ _ _ h, mcp_ne _ _ _ h2]
  split
  · rw [stm_ne _ _ _ h, md0_ne m h2]
  · rfl
def ST (m : Mem) : Prop := 0 ≤ m 76 1 ∧ m 76 1 ≤ 5
def wdw (m : Mem) (k : Int) : Int := it (fun i x => x + (if m 77 (82 + 3 * i) = k then 1 else 0)) 0 (m 77 1).toNat 0
theorem s_X12_wordsWith {G : GG} {m : Mem} {Q : Option Value → Mem → Prop} {a : Int} (hM : MR m) (hc : CMd m) (ha : rg a) (hQ : Q (some (.int (J (wdw m a)))) m) : CM G 0 mX12_wordsWith [.ref (G.2.2.2 76), .int (J (a))] m Q := by
  refine CM.of dkX12_wordsWith (Or.inl rfl) [some _, some _, none, none] rfl (Nat.le_of_ble_eq_true rfl) ?_
  have hc0 := hc.1; have hc1 := hc.2
  refine x_iconst (i := 0) (pc' := 1) rfl rfl ?_
  refine x_istore_n (L' := [some _, some _, some _, none]) (i := 1) (pc' := 2) rfl rfl rfl rfl (by decide) rfl ?_
  refine x_iconst (i := 2) (pc' := 3) rfl rfl ?_
  refine x_istore_n (L' := [some _, some _, some _, some _]) (i := 3) (pc' := 4) rfl rfl rfl rfl (by decide) rfl ?_
  skip
  refine up_ind0 (P := fun (j : Int) (x : Int) => BW G 0 mX12_wordsWith Q 4 [some (.ref (G.2.2.2 76)), some (.int (J (a))), some (.int (J (x))), some (.int (J (j)))] [] m) (fun (j : Int) (x : Int) => x + (if m 77 (82 + 3 * j) = a then 1 else 0)) (m 77 1) (0) (0) (by omega) (fun j x hj0 hj hk => ?_) ?_
  · skip
    refine x_iload_n (i := 4) (pc' := 5) rfl rfl rfl rfl ?_
    refine x_aload_n (i := 5) (pc' := 6) rfl rfl rfl rfl ?_
    refine m_getf (i := 6) (pc' := 9) rfl rfl flX12_7 (sh76 G) rfl rfl ?_
    refine x_iconst (i := 7) (pc' := 10) rfl rfl ?_
    refine m_iald (i := 8) (pc' := 11) rfl rfl (sh77 G) (by decide) ⟨by omega, by omega⟩ ?_
    refine x_icmpge (i := 9) (pc' := 14) (tgt := 43) rfl rfl (by decide) (by first | omega | exact hM _ _) (by first | omega | exact hM _ _) (fun c1 => by exfalso; omega) (fun c1 => ?_)
    refine x_iload_n (i := 10) (pc' := 15) rfl rfl rfl rfl ?_
    refine x_aload_n (i := 11) (pc' := 16) rfl rfl rfl rfl ?_
    refine m_getf (i := 12) (pc' := 19) rfl rfl flX12_7 (sh76 G) rfl rfl ?_
    refine x_bipush (i := 13) (pc' := 21) rfl rfl (by decide) ?_
    refine x_iconst (i := 14) (pc' := 22) rfl rfl ?_
    refine x_iload_n (i := 15) (pc' := 23) rfl rfl rfl rfl ?_
    refine x_imul (i := 16) (pc' := 24) rfl rfl ?_
    refine x_iadd (i := 17) (pc' := 25) rfl rfl ?_
    refine m_iald (i := 18) (pc' := 26) rfl rfl (sh77 G) (by decide) ⟨by omega, by omega⟩ ?_
    refine x_iload_n (i := 19) (pc' := 27) rfl rfl rfl rfl ?_
    refine x_icmpne (i := 20) (pc' := 30) (tgt := 34) rfl rfl (by decide) (by first | omega | exact hM _ _) (by first | omega | exact hM _ _) (fun c2 => ?_) (fun c2 => ?_)
    · skip
      refine x_iconst (i := 23) (pc' := 35) rfl rfl ?_
      refine x_iadd (i := 24) (pc' := 36) rfl rfl ?_
      refine x_istore_n (L' := [some _, some _, some _, some _]) (i := 25) (pc' := 37) rfl rfl rfl rfl (by decide) rfl ?_
      refine x_iinc (L' := [some _, some _, some _, some _]) (i := 26) (pc' := 40) rfl rfl rfl rfl (by decide) rfl ?_
      refine x_goto (i := 27) (pc' := 4) rfl (by decide) ?_
      (first | exact hk | (refine AW.le ?_ hk; simp [lvle]; done) | ((repeat' split at hk) <;> first | exact hk | (refine AW.le ?_ hk; simp [lvle]; done) | (exfalso; omega)))
    · skip
      refine x_iconst (i := 21) (pc' := 31) rfl rfl ?_
      refine x_goto (i := 22) (pc' := 35) rfl (by decide) ?_
      refine x_iadd (i := 24) (pc' := 36) rfl rfl ?_
      refine x_istore_n (L' := [some _, some _, some _, some _]) (i := 25) (pc' := 37) rfl rfl rfl rfl (by decide) rfl ?_
      refine x_iinc (L' := [some _, some _, some _, some _]) (i := 26) (pc' := 40) rfl rfl rfl rfl (by decide) rfl ?_
      refine x_goto (i := 27) (pc' := 4) rfl (by decide) ?_
      (first | exact hk | (refine AW.le ?_ hk; simp [lvle]; done) | ((repeat' split at hk) <;> first | exact hk | (refine AW.le ?_ hk; simp [lvle]; done) | (exfalso; omega)))
  · skip
    refine x_iload_n (i := 4) (pc' := 5) rfl rfl rfl rfl ?_
    refine x_aload_n (i := 5) (pc' := 6) rfl rfl rfl rfl ?_
    refine m_getf (i := 6) (pc' := 9) rfl rfl flX12_7 (sh76 G) rfl rfl ?_
    refine x_iconst (i := 7) (pc' := 10) rfl rfl ?_
    refine m_iald (i := 8) (pc' := 11) rfl rfl (sh77 G) (by decide) ⟨by omega, by omega⟩ ?_
    refine x_icmpge (i := 9) (pc' := 14) (tgt := 43) rfl rfl (by decide) ⟨by omega, by omega⟩ ⟨by omega, by omega⟩ (fun c1 => ?_) (fun c1 => by exfalso; omega)
    refine x_iload_n (i := 28) (pc' := 44) rfl rfl rfl rfl ?_
    exact m_ireturn (i := 29) rfl rfl (by rw [Int.sub_zero]; exact hQ)
theorem wdw_nn (m : Mem) (k : Int) : 0 ≤ wdw m k ∧ wdw m k ≤ (m 77 1).toNat := by
  have := it_Ij (f := fun i x => x + (if m 77 (82 + 3 * i) = k then 1 else 0)) (fun j x => 0 ≤ x ∧ x ≤ j) (m 77 1).toNat 0 0 (fun i y h1 h2 h3 => by split <;> omega) (by decide)
  unfold wdw
  omega
def cnd (m : Mem) (k : Int) : Int := if 0 ≤ k ∧ k < m 77 0 then (if 0 < wdw m k then -3 else 0) else -2
theorem s_X12_canDrop {G : GG} {m : Mem} {Q : Option Value → Mem → Prop} {a : Int} (hM : MR m) (hn : NM m) (hc : CMd m) (ha : rg a) (hQ : Q (some (.int (J (cnd m a)))) m) : CM G 2 mX12_canDrop [.ref (G.2.2.2 76), .int (J (a))] m Q := by
  refine CM.of dkX12_canDrop (Or.inl rfl) [some _, some _] rfl (Nat.le_of_ble_eq_true rfl) ?_
  have hw := wdw_nn m a; have hc1 := hc.2
  refine x_aload_n (i := 0) (pc' := 1) rfl rfl rfl rfl ?_
  refine x_iload_n (i := 1) (pc' := 2) rfl rfl rfl rfl ?_
  refine m_callV (i := 2) (pc' := 5) (av := [_]) (rest := []) rfl rfl (by decide) lX12_79 (sh76 G) rfl rfl rfl rfl rfl (Nat.le_of_ble_eq_true rfl) (Nat.le_refl _) (Nat.le_refl _) (s_X12_isSign hn (by omega) ?_)
  dsimp only [psh]
  refine x_ifne (i := 3) (pc' := 8) (tgt := 13) rfl rfl (by decide) (by (repeat' split) <;> omega) (fun c1 => ?_) (fun c1 => ?_)
  · skip
    refine x_aload_n (i := 6) (pc' := 14) rfl rfl rfl rfl ?_
    refine x_iload_n (i := 7) (pc' := 15) rfl rfl rfl rfl ?_
    refine m_callV (i := 8) (pc' := 18) (av := [_]) (rest := []) rfl rfl (by decide) lX12_84 (sh76 G) rfl rfl rfl rfl rfl (Nat.le_of_ble_eq_true rfl) (Nat.le_refl _) (Nat.le_refl _) (s_X12_wordsWith hM hc (by omega) ?_)
    dsimp only [psh]
    refine x_ifle (i := 9) (pc' := 21) (tgt := 26) rfl rfl (by decide) (by (repeat' split) <;> omega) (fun c2 => ?_) (fun c2 => ?_)
    · skip
      refine x_iconst (i := 12) (pc' := 27) rfl rfl ?_
      exact m_ireturn (i := 13) rfl rfl (by unfold cnd at hQ; (repeat' split at hQ) <;> (repeat' split at *) <;> first | exact hQ | (exfalso; omega))
    · skip
      refine x_bipush (i := 10) (pc' := 23) rfl rfl (by decide) ?_
      refine x_goto (i := 11) (pc' := 27) rfl (by decide) ?_
      exact m_ireturn (i := 13) rfl rfl (by unfold cnd at hQ; (repeat' split at hQ) <;> (repeat' split at *) <;> first | exact hQ | (exfalso; omega))
  · skip
    refine x_bipush (i := 4) (pc' := 10) rfl rfl (by decide) ?_
    refine x_goto (i := 5) (pc' := 27) rfl (by decide) ?_
    exact m_ireturn (i := 13) rfl rfl (by unfold cnd at hQ; (repeat' split at hQ) <;> (repeat' split at *) <;> first | exact hQ | (exfalso; omega))
def gos1 (m : Mem) (k : Int) : Mem := it (fun i (x : Mem) => stm x 77 i (x 77 (i + 5))) (2 + 5 * k) (2 + 5 * (m 77 0 - 1) - (2 + 5 * k)).toNat (stm m 77 0 (m 77 0 - 1))
def gos2 (k : Int) (i : Int) (x : Mem) : Mem := stm x 77 (82 + 3 * i) (x 77 (82 + 3 * i) - (if k < x 77 (82 + 3 * i) then 1 else 0))
def gos (m : Mem) (k : Int) : Mem := it (fun i x => gos2 k i x) 0 (m 77 1).toNat (gos1 m k)
def GO1 (m : Mem) (k : Int) (x : Mem) : Prop := MR x ∧ x 77 0 = m 77 0 - 1 ∧ x 77 1 = m 77 1 ∧ ∀ i, 82 ≤ i → x 77 i = m 77 i
theorem go1_I {m : Mem} {k i : Int} {x : Mem} (h0 : 2 ≤ i) (h1 : i < 82) (h : GO1 m k x) : GO1 m k (stm x 77 i (x 77 (i + 5))) := by
  obtain ⟨a, b, c, d⟩ := h
  exact ⟨a.st (a _ _), by rw [stm_ix _ _ _ (by omega)]; exact b, by rw [stm_ix _ _ _ (by omega)]; exact c, fun j hj => by rw [stm_ix _ _ _ (by omega)]; exact d j hj⟩
theorem go1_0 {m : Mem} (hM : MR m) (hn : NM m) (k : Int) : GO1 m k (stm m 77 0 (m 77 0 - 1)) := ⟨hM.st (by have := hn.1; have := hn.2; omega), stm_eq _ _ _ _, stm_ix _ _ _ (by decide), fun i hi => stm_ix _ _ _ (by omega)⟩
theorem gos1_I {m : Mem} (hM : MR m) (hn : NM m) {k : Int} (hk : 0 ≤ k ∧ k < m 77 0) : GO1 m k (gos1 m k) := by
  have h1 := hn.2
  exact it_I _ _ _ (fun i y a b hy => go1_I (by omega) (by omega) hy) (go1_0 hM hn k)
def GO2 (m : Mem) (j : Int) (x : Mem) : Prop := MR x ∧ x 77 0 = m 77 0 - 1 ∧ x 77 1 = m 77 1 ∧ ∀ i, j ≤ i → i < m 77 1 → x 77 (82 + 3 * i) = m 77 (82 + 3 * i)
theorem gos2_I {m : Mem} {k j : Int} {x : Mem} (hw : ∀ i, 0 ≤ i → i < m 77 1 → 0 ≤ m 77 (82 + 3 * i)) (hj : 0 ≤ j ∧ j < m 77 1) (h : GO2 m j x) : GO2 m (j + 1) (gos2 k j x) := by
  obtain ⟨a, b, c, d⟩ := h
  have e1 := d j (by omega) (by omega); have e2 := hw j hj.1 hj.2; have e3 := a 77 (82 + 3 * j)
  unfold gos2
  exact ⟨a.st (by split <;> omega), by rw [stm_ix _ _ _ (by omega)]; exact b, by rw [stm_ix _ _ _ (by omega)]; exact c, fun i h1 h2 => by rw [stm_ix _ _ _ (by omega)]; exact d i (by omega) h2⟩
theorem s_X12_goes {G : GG} {m : Mem} {Q : Option Value → Mem → Prop} {k : Int} (hM : MR m) (hn : NM m) (hc : CMd m) (hk : 0 ≤ k ∧ k < m 77 0) (hw : ∀ i, 0 ≤ i → i < m 77 1 → 0 ≤ m 77 (82 + 3 * i)) (hQ : Q (some (.int (J (m 77 0 - 1)))) (gos m k)) : CM G 0 mX12_goes [.ref (G.2.2.2 76), .int (J (k))] m Q := by
  refine CM.of dkX12_goes (Or.inl rfl) [some _, some _, none] rfl (Nat.le_of_ble_eq_true rfl) ?_
  have hn0 := hn.1; have hn1 := hn.2; have hc0 := hc.1; have hc1 := hc.2
  refine x_aload_n (i := 0) (pc' := 1) rfl rfl rfl rfl ?_
  refine m_getf (i := 1) (pc' := 4) rfl rfl flX12_7 (sh76 G) rfl rfl ?_
  refine x_iconst (i := 2) (pc' := 5) rfl rfl ?_
  refine x_dup2 (i := 3) (pc' := 6) rfl rfl rfl rfl ?_
  refine m_iald (i := 4) (pc' := 7) rfl rfl (sh77 G) (by decide) ⟨by omega, by omega⟩ ?_
  refine x_iconst (i := 5) (pc' := 8) rfl rfl ?_
  refine x_isub (i := 6) (pc' := 9) rfl rfl ?_
  refine m_iast (i := 7) (pc' := 10) rfl rfl (sh77 G) (by decide) ⟨by omega, by omega⟩ ?_
  refine x_iconst (i := 8) (pc' := 11) rfl rfl ?_
  refine x_iconst (i := 9) (pc' := 12) rfl rfl ?_
  refine x_iload_n (i := 10) (pc' := 13) rfl rfl rfl rfl ?_
  refine x_imul (i := 11) (pc' := 14) rfl rfl ?_
  refine x_iadd (i := 12) (pc' := 15) rfl rfl ?_
  refine x_istore_n (L' := [some _, some _, some _]) (i := 13) (pc' := 16) rfl rfl rfl rfl (by decide) rfl ?_
  skip
  refine up_ind1 (P := fun (j : Int) (x : Mem) => BW G 0 mX12_goes Q 16 [some (.ref (G.2.2.2 76)), some (.int (J (k))), some (.int (J (j)))] [] x) (fun (j : Int) (x : Mem) => stm x 77 j (x 77 (j + 5))) (fun (j : Int) (x : Mem) => GO1 m k x) (2 + 5 * (m 77 0 - 1)) (2 + 5 * k) (stm m 77 0 (m 77 0 - 1)) (by omega) (go1_0 hM hn k) (fun j x hj0 hj hi => go1_I (by omega) (by omega) hi) (fun j x hj0 hj hi hk => ?_) (fun hi => ?_)
  · obtain ⟨g1, g2, g3, g4⟩ := hi
    refine x_iload_n (i := 14) (pc' := 17) rfl rfl rfl rfl ?_
    refine x_iconst (i := 15) (pc' := 18) rfl rfl ?_
    refine x_iconst (i := 16) (pc' := 19) rfl rfl ?_
    refine x_aload_n (i := 17) (pc' := 20) rfl rfl rfl rfl ?_
    refine m_getf (i := 18) (pc' := 23) rfl rfl flX12_7 (sh76 G) rfl rfl ?_
    refine x_iconst (i := 19) (pc' := 24) rfl rfl ?_
    refine m_iald (i := 20) (pc' := 25) rfl rfl (sh77 G) (by decide) ⟨by omega, by omega⟩ ?_
    refine x_imul (i := 21) (pc' := 26) rfl rfl ?_
    refine x_iadd (i := 22) (pc' := 27) rfl rfl ?_
    refine x_icmpge (i := 23) (pc' := 30) (tgt := 50) rfl rfl (by decide) ⟨by omega, by omega⟩ ⟨by omega, by omega⟩ (fun g1 => by exfalso; omega) (fun g1 => ?_)
    refine x_aload_n (i := 24) (pc' := 31) rfl rfl rfl rfl ?_
    refine m_getf (i := 25) (pc' := 34) rfl rfl flX12_7 (sh76 G) rfl rfl ?_
    refine x_iload_n (i := 26) (pc' := 35) rfl rfl rfl rfl ?_
    refine x_aload_n (i := 27) (pc' := 36) rfl rfl rfl rfl ?_
    refine m_getf (i := 28) (pc' := 39) rfl rfl flX12_7 (sh76 G) rfl rfl ?_
    refine x_iload_n (i := 29) (pc' := 40) rfl rfl rfl rfl ?_
    refine x_iconst (i := 30) (pc' := 41) rfl rfl ?_
    refine x_iadd (i := 31) (pc' := 42) rfl rfl ?_
    refine m_iald (i := 32) (pc' := 43) rfl rfl (sh77 G) (by decide) ⟨by omega, by omega⟩ ?_
    refine m_iast (i := 33) (pc' := 44) rfl rfl (sh77 G) (by decide) ⟨by omega, by omega⟩ ?_
    refine x_iinc (L' := [some _, some _, some _]) (i := 34) (pc' := 47) rfl rfl rfl rfl (by decide) rfl ?_
    refine x_goto (i := 35) (pc' := 16) rfl (by decide) ?_
    (first | exact hk | (refine AW.le ?_ hk; simp [lvle]; done) | ((repeat' split at hk) <;> first | exact hk | (refine AW.le ?_ hk; simp [lvle]; done) | (exfalso; omega)))
  · have g2 := hi.2.1
    refine x_iload_n (i := 14) (pc' := 17) rfl rfl rfl rfl ?_
    refine x_iconst (i := 15) (pc' := 18) rfl rfl ?_
    refine x_iconst (i := 16) (pc' := 19) rfl rfl ?_
    refine x_aload_n (i := 17) (pc' := 20) rfl rfl rfl rfl ?_
    refine m_getf (i := 18) (pc' := 23) rfl rfl flX12_7 (sh76 G) rfl rfl ?_
    refine x_iconst (i := 19) (pc' := 24) rfl rfl ?_
    refine m_iald (i := 20) (pc' := 25) rfl rfl (sh77 G) (by decide) ⟨by omega, by omega⟩ ?_
    refine x_imul (i := 21) (pc' := 26) rfl rfl ?_
    refine x_iadd (i := 22) (pc' := 27) rfl rfl ?_
    refine x_icmpge (i := 23) (pc' := 30) (tgt := 50) rfl rfl (by decide) ⟨by omega, by omega⟩ ⟨by omega, by omega⟩ (fun h1 => ?_) (fun h1 => by exfalso; omega)
    refine x_iconst (i := 36) (pc' := 51) rfl rfl ?_
    refine x_istore_n (L' := [some _, some _, some _]) (i := 37) (pc' := 52) rfl rfl rfl rfl (by decide) rfl ?_
    refine up_ind1 (P := fun (j : Int) (x : Mem) => BW G 0 mX12_goes Q 52 [some (.ref (G.2.2.2 76)), some (.int (J (k))), some (.int (J (j)))] [] x) (fun (j : Int) (x : Mem) => gos2 k j x) (fun (j : Int) (x : Mem) => GO2 m j x) (m 77 1) (0) (gos1 m k) (by omega) ((by obtain ⟨a, b, c, d⟩ := gos1_I hM hn hk; exact ⟨a, b, c, fun i h1 h2 => d _ (by omega)⟩)) (fun j x hj0 hj hi => gos2_I hw (by omega) hi) (fun j x hj0 hj hi hk => ?_) (fun hi => ?_)
    · obtain ⟨g1, g2, g3, g4⟩ := hi
      refine x_iload_n (i := 38) (pc' := 53) rfl rfl rfl rfl ?_
      refine x_aload_n (i := 39) (pc' := 54) rfl rfl rfl rfl ?_
      refine m_getf (i := 40) (pc' := 57) rfl rfl flX12_7 (sh76 G) rfl rfl ?_
      refine x_iconst (i := 41) (pc' := 58) rfl rfl ?_
      refine m_iald (i := 42) (pc' := 59) rfl rfl (sh77 G) (by decide) ⟨by omega, by omega⟩ ?_
      refine x_icmpge (i := 43) (pc' := 62) (tgt := 102) rfl rfl (by decide) (by first | omega | exact g1 _ _) (by first | omega | exact g1 _ _) (fun e1 => by exfalso; omega) (fun e1 => ?_)
      refine x_aload_n (i := 44) (pc' := 63) rfl rfl rfl rfl ?_
      refine m_getf (i := 45) (pc' := 66) rfl rfl flX12_7 (sh76 G) rfl rfl ?_
      refine x_bipush (i := 46) (pc' := 68) rfl rfl (by decide) ?_
      refine x_iconst (i := 47) (pc' := 69) rfl rfl ?_
      refine x_iload_n (i := 48) (pc' := 70) rfl rfl rfl rfl ?_
      refine x_imul (i := 49) (pc' := 71) rfl rfl ?_
      refine x_iadd (i := 50) (pc' := 72) rfl rfl ?_
      refine x_dup2 (i := 51) (pc' := 73) rfl rfl rfl rfl ?_
      refine m_iald (i := 52) (pc' := 74) rfl rfl (sh77 G) (by decide) ⟨by omega, by omega⟩ ?_
      refine x_aload_n (i := 53) (pc' := 75) rfl rfl rfl rfl ?_
      refine m_getf (i := 54) (pc' := 78) rfl rfl flX12_7 (sh76 G) rfl rfl ?_
      refine x_bipush (i := 55) (pc' := 80) rfl rfl (by decide) ?_
      refine x_iconst (i := 56) (pc' := 81) rfl rfl ?_
      refine x_iload_n (i := 57) (pc' := 82) rfl rfl rfl rfl ?_
      refine x_imul (i := 58) (pc' := 83) rfl rfl ?_
      refine x_iadd (i := 59) (pc' := 84) rfl rfl ?_
      refine m_iald (i := 60) (pc' := 85) rfl rfl (sh77 G) (by decide) ⟨by omega, by omega⟩ ?_
      refine x_iload_n (i := 61) (pc' := 86) rfl rfl rfl rfl ?_
      refine x_icmple (i := 62) (pc' := 89) (tgt := 93) rfl rfl (by decide) (by first | omega | exact g1 _ _) (by first | omega | exact g1 _ _) (fun e2 => ?_) (fun e2 => ?_)
      · skip
        refine x_iconst (i := 65) (pc' := 94) rfl rfl ?_
        refine x_isub (i := 66) (pc' := 95) rfl rfl ?_
        refine m_iast (i := 67) (pc' := 96) rfl rfl (sh77 G) (by decide) ⟨by omega, by omega⟩ ?_
        refine x_iinc (L' := [some _, some _, some _]) (i := 68) (pc' := 99) rfl rfl rfl rfl (by decide) rfl ?_
        refine x_goto (i := 69) (pc' := 52) rfl (by decide) ?_
        (unfold gos2 at hk; first | exact hk | (refine AW.le ?_ hk; simp [lvle]; done) | ((repeat' split at hk) <;> first | exact hk | (refine AW.le ?_ hk; simp [lvle]; done) | (exfalso; omega)))
      · skip
        refine x_iconst (i := 63) (pc' := 90) rfl rfl ?_
        refine x_goto (i := 64) (pc' := 94) rfl (by decide) ?_
        refine x_isub (i := 66) (pc' := 95) rfl rfl ?_
        refine m_iast (i := 67) (pc' := 96) rfl rfl (sh77 G) (by decide) ⟨by omega, by omega⟩ ?_
        refine x_iinc (L' := [some _, some _, some _]) (i := 68) (pc' := 99) rfl rfl rfl rfl (by decide) rfl ?_
        refine x_goto (i := 69) (pc' := 52) rfl (by decide) ?_
        (unfold gos2 at hk; first | exact hk | (refine AW.le ?_ hk; simp [lvle]; done) | ((repeat' split at hk) <;> first | exact hk | (refine AW.le ?_ hk; simp [lvle]; done) | (exfalso; omega)))
    · have g2 := hi.2.1; have g3 := hi.2.2.1
      refine x_iload_n (i := 38) (pc' := 53) rfl rfl rfl rfl ?_
      refine x_aload_n (i := 39) (pc' := 54) rfl rfl rfl rfl ?_
      refine m_getf (i := 40) (pc' := 57) rfl rfl flX12_7 (sh76 G) rfl rfl ?_
      refine x_iconst (i := 41) (pc' := 58) rfl rfl ?_
      refine m_iald (i := 42) (pc' := 59) rfl rfl (sh77 G) (by decide) ⟨by omega, by omega⟩ ?_
      refine x_icmpge (i := 43) (pc' := 62) (tgt := 102) rfl rfl (by decide) ⟨by omega, by omega⟩ ⟨by omega, by omega⟩ (fun f1 => ?_) (fun f1 => by exfalso; omega)
      refine x_aload_n (i := 70) (pc' := 103) rfl rfl rfl rfl ?_
      refine m_getf (i := 71) (pc' := 106) rfl rfl flX12_7 (sh76 G) rfl rfl ?_
      refine x_iconst (i := 72) (pc' := 107) rfl rfl ?_
      refine m_iald (i := 73) (pc' := 108) rfl rfl (sh77 G) (by decide) ⟨by omega, by omega⟩ ?_
      rw [g2]
      exact m_ireturn (i := 74) rfl rfl (by rw [Int.sub_zero]; exact hQ)
theorem s_X12_isWeight {G : GG} {m : Mem} {Q : Option Value → Mem → Prop} {a b : Int} (ha : rg a) (hb : rg b) (hQ : Q (some (.int (J (if (0 ≤ a ∧ a ≤ 3) ∧ (0 ≤ b ∧ b ≤ 5) then 1 else 0)))) m) : CM G 1 mX12_isWeight [.int (J (a)), .int (J (b))] m Q := by
  refine CM.of dkX12_isWeight (Or.inl rfl) [some _, some _] rfl (Nat.le_of_ble_eq_true rfl) ?_
  refine x_iload_n (i := 0) (pc' := 1) rfl rfl rfl rfl ?_
  refine x_i2l (i := 1) (pc' := 2) rfl rfl (by (repeat' split) <;> omega) ?_
  refine x_lconst (a := 0) (i := 2) (pc' := 3) rfl rfl rfl ?_
  refine x_ldc2 (i := 3) (pc' := 6) rfl rfl kX12_60 ?_
  refine m_callS (i := 4) (pc' := 9) (av := [_, _, _]) (rest := []) rfl rfl (by decide) lX12_42 rfl rfl (Nat.le_of_ble_eq_true rfl) (Nat.le_refl _) (Nat.le_refl _) (s_X12_in (by omega) (by omega) (by omega) ?_)
  dsimp only [psh]
  refine x_ifeq (i := 5) (pc' := 12) (tgt := 28) rfl rfl (by decide) (by (repeat' split) <;> omega) (fun c1 => ?_) (fun c1 => ?_)
  · skip
    refine x_iconst (i := 14) (pc' := 29) rfl rfl ?_
    exact m_zreturn (i := 15) rfl rfl (by omega) (by (repeat' split at hQ) <;> (repeat' split at *) <;> first | exact hQ | (exfalso; omega))
  · skip
    refine x_iload_n (i := 6) (pc' := 13) rfl rfl rfl rfl ?_
    refine x_i2l (i := 7) (pc' := 14) rfl rfl (by (repeat' split) <;> omega) ?_
    refine x_lconst (a := 0) (i := 8) (pc' := 15) rfl rfl rfl ?_
    refine x_ldc2 (i := 9) (pc' := 18) rfl rfl kX12_93 ?_
    refine m_callS (i := 10) (pc' := 21) (av := [_, _, _]) (rest := []) rfl rfl (by decide) lX12_42 rfl rfl (Nat.le_of_ble_eq_true rfl) (Nat.le_refl _) (Nat.le_refl _) (s_X12_in (by omega) (by omega) (by omega) ?_)
    dsimp only [psh]
    refine x_ifeq (i := 11) (pc' := 24) (tgt := 28) rfl rfl (by decide) (by (repeat' split) <;> omega) (fun c2 => ?_) (fun c2 => ?_)
    · skip
      refine x_iconst (i := 14) (pc' := 29) rfl rfl ?_
      exact m_zreturn (i := 15) rfl rfl (by omega) (by (repeat' split at hQ) <;> (repeat' split at *) <;> first | exact hQ | (exfalso; omega))
    · skip
      refine x_iconst (i := 12) (pc' := 25) rfl rfl ?_
      refine x_goto (i := 13) (pc' := 29) rfl (by decide) ?_
      exact m_zreturn (i := 15) rfl rfl (by omega) (by (repeat' split at hQ) <;> (repeat' split at *) <;> first | exact hQ | (exfalso; omega))
def nxm (m : Mem) : Mem := stm m 76 5 (rn (m 76 5))
def nxv (m : Mem) : Int := rn (m 76 5) / 65536 % 8
theorem s_X12_next {G : GG} {m : Mem} {Q : Option Value → Mem → Prop} (hd : 0 ≤ m 76 5 ∧ m 76 5 < 2147483648) (hQ : Q (some (.int (J (nxv m)))) (nxm m)) : CM G 0 mX12_next [.ref (G.2.2.2 76)] m Q := by
  refine CM.of dkX12_next (Or.inl rfl) [some _] rfl (Nat.le_of_ble_eq_true rfl) ?_
  have hr : 0 ≤ rn (m 76 5) ∧ rn (m 76 5) < 2147483648 := (by unfold rn; omega)
  have e : (m 76 5 * 1103515245 + 12345) % 2147483648 = rn (m 76 5) := rfl
  refine x_aload_n (i := 0) (pc' := 1) rfl rfl rfl rfl ?_
  refine x_aload_n (i := 1) (pc' := 2) rfl rfl rfl rfl ?_
  refine m_getf (i := 2) (pc' := 5) rfl rfl flX12_99 (sh76 G) rfl rfl ?_
  refine x_ldc2 (i := 3) (pc' := 8) rfl rfl kX12_103 ?_
  refine x_lmul (i := 4) (pc' := 9) rfl rfl ?_
  refine x_ldc2 (i := 5) (pc' := 12) rfl rfl kX12_105 ?_
  refine x_ladd (i := 6) (pc' := 13) rfl rfl ?_
  refine x_ldc2 (i := 7) (pc' := 16) rfl rfl kX12_107 ?_
  refine x_lrem (i := 8) (pc' := 17) rfl rfl ⟨by omega, by omega⟩ ⟨by omega, by omega⟩ (by omega) (by omega) ?_
  rw [e]
  refine m_putf (kz := 5) (i := 9) (pc' := 20) rfl rfl flX12_99 (sh76 G) (fun _ => rfl) rfl (Nat.le_of_ble_eq_true rfl) rfl rfl ?_
  refine x_aload_n (i := 10) (pc' := 21) rfl rfl rfl rfl ?_
  refine m_getf (i := 11) (pc' := 24) rfl rfl flX12_99 (sh76 G) rfl rfl ?_
  rw [stm_eq]
  refine x_ldc2 (i := 12) (pc' := 27) rfl rfl kX12_109 ?_
  refine x_ldiv (i := 13) (pc' := 28) rfl rfl ⟨by omega, by omega⟩ ⟨by omega, by omega⟩ (by omega) (by omega) ?_
  refine x_ldc2 (i := 14) (pc' := 31) rfl rfl kX12_111 ?_
  refine x_lrem (i := 15) (pc' := 32) rfl rfl ⟨by omega, by omega⟩ ⟨by omega, by omega⟩ (by omega) (by omega) ?_
  refine x_l2i (i := 16) (pc' := 33) rfl rfl ?_
  exact m_ireturn (i := 17) rfl rfl (hQ)
def ons (z : Int) : Int := it (fun k x => x + ia (z / 2 ^ k.toNat) 1) 0 16 0
theorem ons_le (z : Int) : 0 ≤ ons z ∧ ons z ≤ 16 := by
  have := it_Ij (f := fun k x => x + ia (z / 2 ^ k.toNat) 1) (fun j x => 0 ≤ x ∧ x ≤ j) 16 0 0 (fun i y h1 h2 h3 => by
    have a1 := ia_le (z / 2 ^ i.toNat) 1; have a2 := ia_nn (z / 2 ^ i.toNat) 1
    have a3 : ((1 : Int).toNat : Int) = 1 := rfl
    omega) (by decide)
  exact this
theorem s_X12_ones {G : GG} {m : Mem} {Q : Option Value → Mem → Prop} {a : Int} (ha : 0 ≤ a ∧ a < 65536) (hQ : Q (some (.int (J (ons a)))) m) : CM G 0 mX12_ones [.int (J (a))] m Q := by
  refine CM.of dkX12_ones (Or.inl rfl) [some _, none, none] rfl (Nat.le_of_ble_eq_true rfl) ?_
  refine x_iconst (i := 0) (pc' := 1) rfl rfl ?_
  refine x_istore_n (L' := [some _, some _, none]) (i := 1) (pc' := 2) rfl rfl rfl rfl (by decide) rfl ?_
  refine x_iconst (i := 2) (pc' := 3) rfl rfl ?_
  refine x_istore_n (L' := [some _, some _, some _]) (i := 3) (pc' := 4) rfl rfl rfl rfl (by decide) rfl ?_
  skip
  refine up_ind0 (P := fun (j : Int) (x : Int) => BW G 0 mX12_ones Q 4 [some (.int (J (a))), some (.int (J (x))), some (.int (J (j)))] [] m) (fun (j : Int) (x : Int) => x + ia (a / 2 ^ j.toNat) 1) (16) (0) (0) (by omega) (fun j x hj0 hj hk => ?_) ?_
  · have hd1 : 0 ≤ a / 2 ^ j.toNat := Int.ediv_nonneg ha.1 (Int.le_of_lt (Int.pow_pos (by omega)))
    refine x_iload_n (i := 4) (pc' := 5) rfl rfl rfl rfl ?_
    refine x_bipush (i := 5) (pc' := 7) rfl rfl (by decide) ?_
    refine x_icmpge (i := 6) (pc' := 10) (tgt := 24) rfl rfl (by decide) ⟨by omega, by omega⟩ ⟨by omega, by omega⟩ (fun c1 => by exfalso; omega) (fun c1 => ?_)
    refine x_iload_n (i := 7) (pc' := 11) rfl rfl rfl rfl ?_
    refine x_iload_n (i := 8) (pc' := 12) rfl rfl rfl rfl ?_
    refine x_iload_n (i := 9) (pc' := 13) rfl rfl rfl rfl ?_
    refine x_ishr (i := 10) (pc' := 14) rfl rfl (by omega) (by omega) ?_
    refine x_iconst (i := 11) (pc' := 15) rfl rfl ?_
    refine x_iand (i := 12) (pc' := 16) rfl rfl (by omega) (by omega) ?_
    refine x_iadd (i := 13) (pc' := 17) rfl rfl ?_
    refine x_istore_n (L' := [some _, some _, some _]) (i := 14) (pc' := 18) rfl rfl rfl rfl (by decide) rfl ?_
    refine x_iinc (L' := [some _, some _, some _]) (i := 15) (pc' := 21) rfl rfl rfl rfl (by decide) rfl ?_
    refine x_goto (i := 16) (pc' := 4) rfl (by decide) ?_
    (first | exact hk | (refine AW.le ?_ hk; simp [lvle]; done) | ((repeat' split at hk) <;> first | exact hk | (refine AW.le ?_ hk; simp [lvle]; done) | (exfalso; omega)))
  · skip
    refine x_iload_n (i := 4) (pc' := 5) rfl rfl rfl rfl ?_
    refine x_bipush (i := 5) (pc' := 7) rfl rfl (by decide) ?_
    refine x_icmpge (i := 6) (pc' := 10) (tgt := 24) rfl rfl (by decide) ⟨by omega, by omega⟩ ⟨by omega, by omega⟩ (fun c1 => ?_) (fun c1 => by exfalso; omega)
    refine x_iload_n (i := 17) (pc' := 25) rfl rfl rfl rfl ?_
    exact m_ireturn (i := 18) rfl rfl (hQ)
