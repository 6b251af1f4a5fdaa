theorem way_le {m : Mem} (hc : CMd m) (hwd : WDn m) (hl : LIE m) : 0 ≤ way_ m ∧ way_ m ≤ 160 := by
  have hc0 := hc.1; have hc1 := hc.2
  have h := it_Ij (f := fun k x => wyr m k x) (fun j x => (0 ≤ x.1 ∧ x.1 ≤ 5 * j) ∧ (-1 ≤ x.2 ∧ x.2 ≤ 5)) (2 * m 77 1).toNat 0 ((0 : Int), (-1 : Int)) (fun j x h1 h2 h3 => by
    have hw2 := hwd (j / 2) (by omega) (by omega)
    have hw3 : -1 ≤ m 77 (82 + 3 * (j / 2) + (1 + j % 2)) ∧ m 77 (82 + 3 * (j / 2) + (1 + j % 2)) ≤ 5 := (by rcases (by omega : j % 2 = 0 ∨ j % 2 = 1) with h | h <;> rw [h] <;> first | exact hw2.2.1 | exact hw2.2.2)
    unfold wyr
    split
    · refine ⟨?_, h3.2⟩
      have := h3.1
      omega
    · next hne =>
      refine ⟨?_, hw3⟩
      dsimp only
      split
      · have := h3.1
        omega
      · next hx2 =>
        have a1 := hl x.2 (by omega) (by omega)
        have a2 := hl (m 77 (82 + 3 * (j / 2) + (1 + j % 2))) (by omega) (by omega)
        have a3 := ab_le (x := m 80 x.2 - m 80 (m 77 (82 + 3 * (j / 2) + (1 + j % 2)))) (n := 5) (by omega)
        have := h3.1
        omega) (by decide)
  unfold way_
  have := h.1
  omega
theorem trf_ne (s : Int) (x : (Int × Int) × Mem) {q : Nat} (h : q ≠ 80) : (trf s x).2 q = x.2 q := stm_ne _ _ _ h
theorem trm_ne (k : Int) (m : Mem) {q : Nat} (h : q ≠ 80) : trm k m q = m q := it_83 (fun i x => trf_ne i x h) _ _ _
theorem trm_I {k : Int} {m : Mem} (hk0 : 0 ≤ k ∧ k < 720) (hM : MR m) : MR (trm k m) ∧ LIE (trm k m) := by
  have hall := tcl_all k.toNat (by omega)
  rw [Int.toNat_of_nonneg hk0.1] at hall
  have h := it_Ij (f := fun s x => trf s x) (fun s x => tcl (6 - s).toNat s x.1 = true ∧ MR x.2 ∧ ∀ i, 0 ≤ i → i < s → 0 ≤ x.2 80 i ∧ x.2 80 i ≤ 5) 6 0 ((k, 63), m) (fun s x h1 h2 h3 => by
    obtain ⟨hi, hm, hv⟩ := h3
    obtain ⟨⟨htk, hx1, hx2⟩, hx3⟩ := tcl_at hi (by omega)
    have ht5 := tw_le x.1.2 6 (x.1.1 / fct s) 0 (by omega) (by omega) htk
    have ht6 : 0 ≤ tvv s x.1 ∧ tvv s x.1 ≤ 5 := ht5
    refine ⟨hx3, hm.st (by omega), fun i a b => ?_⟩
    show 0 ≤ stm x.2 80 s (tvv s x.1) 80 i ∧ stm x.2 80 s (tvv s x.1) 80 i ≤ 5
    by_cases hi2 : i = s
    · rw [hi2, stm_eq]; exact ht6
    · rw [stm_ix _ _ _ hi2]; exact hv i a (by omega)) ⟨hall, hM, fun i a b => by omega⟩
  exact ⟨h.2.1, fun s a b => h.2.2 s a (by omega)⟩
def cpb (y : Mem) : Mem := it (fun s (x : Mem) => stm x 81 s (x 80 s)) 0 6 y
theorem cpb_ne (y : Mem) {q : Nat} (h : q ≠ 81) : cpb y q = y q := it_8 (fun i x => stm_ne _ _ _ h) _ _ _
theorem cpb_MR {y : Mem} (h : MR y) : MR (cpb y) := MR_it (fun i x hx => hx.st (hx _ _)) _ _ _ h
def bwf (b : Int) (y : Mem) : Int × Mem := if b = -1 ∨ way_ y < b then (way_ y, cpb y) else (b, y)
def bwr (k : Int) (x : Int × Mem) : Int × Mem := bwf x.1 (trm k x.2)
def bwm (m : Mem) : Int × Mem := it (fun k x => bwr k x) 0 720 (-1, m)
def BWI (m : Mem) (x : Int × Mem) : Prop := (-1 ≤ x.1 ∧ x.1 ≤ 160) ∧ MR x.2 ∧ x.2 77 = m 77 ∧ x.2 76 = m 76 ∧ x.2 78 = m 78
theorem bwr_I {m : Mem} (hc : CMd m) (hwd : WDn m) {k : Int} {x : Int × Mem} (hk : 0 ≤ k ∧ k < 720) (h : BWI m x) : BWI m (bwr k x) := by
  obtain ⟨h1, h2, h3, h4, h5⟩ := h
  have hl := trm_I hk h2
  have e7 : trm k x.2 77 = m 77 := (trm_ne k x.2 (by decide)).trans h3
  have e6 : trm k x.2 76 = m 76 := (trm_ne k x.2 (by decide)).trans h4
  have e8 : trm k x.2 78 = m 78 := (trm_ne k x.2 (by decide)).trans h5
  have hw := way_le (m := trm k x.2) (by unfold CMd; rw [e7]; exact hc) (by unfold WDn; rw [e7]; exact hwd) hl.2
  unfold bwr bwf
  split
  · exact ⟨by dsimp only; omega, cpb_MR hl.1, (cpb_ne _ (by decide)).trans e7, (cpb_ne _ (by decide)).trans e6, (cpb_ne _ (by decide)).trans e8⟩
  · exact ⟨h1, hl.1, e7, e6, e8⟩
theorem bwm_I {m : Mem} (hM : MR m) (hc : CMd m) (hwd : WDn m) : BWI m (bwm m) := it_I (I := BWI m) _ _ _ (fun i y a b hy => bwr_I hc hwd (by omega) hy) ⟨by show (-1 : Int) ≤ -1 ∧ (-1 : Int) ≤ 160; omega, hM, rfl, rfl, rfl⟩
theorem bw_cp {G : GG} {y : Mem} {Q : Option Value → Mem → Prop} {b k w : Int} (h : BW G 2 mX12_bestWay Q 63 [some (.ref (G.2.2.2 76)), some (.int (J (b))), some (.int (J (k))), some (.int (J (w))), some (.int (J (6)))] [] (cpb y)) : BW G 2 mX12_bestWay Q 36 [some (.ref (G.2.2.2 76)), some (.int (J (b))), some (.int (J (k))), some (.int (J (w))), some (.int (J (0)))] [] y := by
  refine up_ind0 (P := fun (s : Int) (x : Mem) => BW G 2 mX12_bestWay Q 36 [some (.ref (G.2.2.2 76)), some (.int (J (b))), some (.int (J (k))), some (.int (J (w))), some (.int (J (s)))] [] x) (fun (s : Int) (x : Mem) => stm x 81 s (x 80 s)) (6) (0) (y) (by omega) (fun s x hj0 hj hk => ?_) ?_
  · skip
    refine x_iload (i := 23) (pc' := 38) rfl rfl rfl ?_
    refine x_bipush (i := 24) (pc' := 40) rfl rfl (by decide) ?_
    refine x_icmpge (i := 25) (pc' := 43) (tgt := 63) rfl rfl (by decide) ⟨by omega, by omega⟩ ⟨by omega, by omega⟩ (fun c1 => by exfalso; omega) (fun c1 => ?_)
    refine x_aload_n (i := 26) (pc' := 44) rfl rfl rfl rfl ?_
    refine m_getf (i := 27) (pc' := 47) rfl rfl flX12_22 (sh76 G) rfl rfl ?_
    refine x_iload (i := 28) (pc' := 49) rfl rfl rfl ?_
    refine x_aload_n (i := 29) (pc' := 50) rfl rfl rfl rfl ?_
    refine m_getf (i := 30) (pc' := 53) rfl rfl flX12_19 (sh76 G) rfl rfl ?_
    refine x_iload (i := 31) (pc' := 55) rfl rfl rfl ?_
    refine m_iald (i := 32) (pc' := 56) rfl rfl (sh80 G) (by decide) ⟨by omega, by omega⟩ ?_
    refine m_iast (i := 33) (pc' := 57) rfl rfl (sh81 G) (by decide) ⟨by omega, by omega⟩ ?_
    refine x_iinc (L' := [some _, some _, some _, some _, some _]) (i := 34) (pc' := 60) rfl rfl rfl rfl (by decide) rfl ?_
    refine x_goto (i := 35) (pc' := 36) rfl (by decide) ?_
    (first | exact hk | (refine AW.le ?_ hk; simp [lvle]; done) | ((repeat' split at hk) <;> first | exact hk | (refine AW.le ?_ hk; simp [lvle]; done) | (exfalso; omega)))
  · skip
    refine x_iload (i := 23) (pc' := 38) rfl rfl rfl ?_
    refine x_bipush (i := 24) (pc' := 40) rfl rfl (by decide) ?_
    refine x_icmpge (i := 25) (pc' := 43) (tgt := 63) rfl rfl (by decide) ⟨by omega, by omega⟩ ⟨by omega, by omega⟩ (fun c1 => ?_) (fun c1 => by exfalso; omega)
    exact h
theorem bw_one {G : GG} {y : Mem} {Q : Option Value → Mem → Prop} {b k : Int} (hb : -1 ≤ b ∧ b ≤ 160) (hc : CMd y) (hwd : WDn y) (hl : LIE y) (h : BW G 2 mX12_bestWay Q 4 [some (.ref (G.2.2.2 76)), some (.int (J ((bwf b y).1))), some (.int (J (k + 1))), none, none] [] (bwf b y).2) : BW G 2 mX12_bestWay Q 16 [some (.ref (G.2.2.2 76)), some (.int (J (b))), some (.int (J (k))), none, none] [] y := by
  have hw := way_le hc hwd hl
  unfold bwf at h
  by_cases hcc : b = -1 ∨ way_ y < b
  · rw [if_pos hcc] at h
    refine x_aload_n (i := 10) (pc' := 17) rfl rfl rfl rfl ?_
    refine m_callV (i := 11) (pc' := 20) (av := []) (rest := []) rfl rfl (by decide) lX12_221 (sh76 G) rfl rfl rfl rfl rfl (Nat.le_of_ble_eq_true rfl) (Nat.le_refl _) (Nat.le_refl _) (s_X12_way hc hwd hl ?_)
    dsimp only [psh]
    refine x_istore_n (L' := [some _, some _, some _, some _, none]) (i := 12) (pc' := 21) rfl rfl rfl rfl (by decide) rfl ?_
    refine x_iload_n (i := 13) (pc' := 22) rfl rfl rfl rfl ?_
    refine x_iconst (i := 14) (pc' := 23) rfl rfl ?_
    refine x_icmpeq (i := 15) (pc' := 26) (tgt := 31) rfl rfl (by decide) ⟨by omega, by omega⟩ ⟨by omega, by omega⟩ (fun c1 => ?_) (fun c1 => ?_)
    · first | (exfalso; omega; done) | skip
      all_goals (
        refine x_iload_n (i := 19) (pc' := 32) rfl rfl rfl rfl ?_
        refine x_istore_n (L' := [some _, some _, some _, some _, none]) (i := 20) (pc' := 33) rfl rfl rfl rfl (by decide) rfl ?_
        refine x_iconst (i := 21) (pc' := 34) rfl rfl ?_
        refine x_istore (L' := [some _, some _, some _, some _, some _]) (i := 22) (pc' := 36) rfl rfl rfl (by decide) rfl ?_
        refine bw_cp ?_
        refine x_iinc (L' := [some _, some _, some _, some _, some _]) (i := 36) (pc' := 66) rfl rfl rfl rfl (by decide) rfl ?_
        refine x_goto (i := 37) (pc' := 4) rfl (by decide) ?_
        (refine AW.le ?_ h; simp [lvle]; done)
        skip)
    · first | (exfalso; omega; done) | skip
      all_goals (
        refine x_iload_n (i := 16) (pc' := 27) rfl rfl rfl rfl ?_
        refine x_iload_n (i := 17) (pc' := 28) rfl rfl rfl rfl ?_
        refine x_icmpge (i := 18) (pc' := 31) (tgt := 63) rfl rfl (by decide) ⟨by omega, by omega⟩ ⟨by omega, by omega⟩ (fun c2 => ?_) (fun c2 => ?_)
        · first | (exfalso; omega; done) | skip
          all_goals (
            exfalso; omega
            skip)
        · first | (exfalso; omega; done) | skip
          all_goals (
            refine x_iload_n (i := 19) (pc' := 32) rfl rfl rfl rfl ?_
            refine x_istore_n (L' := [some _, some _, some _, some _, none]) (i := 20) (pc' := 33) rfl rfl rfl rfl (by decide) rfl ?_
            refine x_iconst (i := 21) (pc' := 34) rfl rfl ?_
            refine x_istore (L' := [some _, some _, some _, some _, some _]) (i := 22) (pc' := 36) rfl rfl rfl (by decide) rfl ?_
            refine bw_cp ?_
            refine x_iinc (L' := [some _, some _, some _, some _, some _]) (i := 36) (pc' := 66) rfl rfl rfl rfl (by decide) rfl ?_
            refine x_goto (i := 37) (pc' := 4) rfl (by decide) ?_
            (refine AW.le ?_ h; simp [lvle]; done)
            skip)
        skip)
  · rw [if_neg hcc] at h
    refine x_aload_n (i := 10) (pc' := 17) rfl rfl rfl rfl ?_
    refine m_callV (i := 11) (pc' := 20) (av := []) (rest := []) rfl rfl (by decide) lX12_221 (sh76 G) rfl rfl rfl rfl rfl (Nat.le_of_ble_eq_true rfl) (Nat.le_refl _) (Nat.le_refl _) (s_X12_way hc hwd hl ?_)
    dsimp only [psh]
    refine x_istore_n (L' := [some _, some _, some _, some _, none]) (i := 12) (pc' := 21) rfl rfl rfl rfl (by decide) rfl ?_
    refine x_iload_n (i := 13) (pc' := 22) rfl rfl rfl rfl ?_
    refine x_iconst (i := 14) (pc' := 23) rfl rfl ?_
    refine x_icmpeq (i := 15) (pc' := 26) (tgt := 31) rfl rfl (by decide) ⟨by omega, by omega⟩ ⟨by omega, by omega⟩ (fun c1 => ?_) (fun c1 => ?_)
    · first | (exfalso; omega; done) | skip
      all_goals (
        refine x_iload_n (i := 19) (pc' := 32) rfl rfl rfl rfl ?_
        refine x_istore_n (L' := [some _, some _, some _, some _, none]) (i := 20) (pc' := 33) rfl rfl rfl rfl (by decide) rfl ?_
        refine x_iconst (i := 21) (pc' := 34) rfl rfl ?_
        refine x_istore (L' := [some _, some _, some _, some _, some _]) (i := 22) (pc' := 36) rfl rfl rfl (by decide) rfl ?_
        exfalso; omega
        skip)
    · first | (exfalso; omega; done) | skip
      all_goals (
        refine x_iload_n (i := 16) (pc' := 27) rfl rfl rfl rfl ?_
        refine x_iload_n (i := 17) (pc' := 28) rfl rfl rfl rfl ?_
        refine x_icmpge (i := 18) (pc' := 31) (tgt := 63) rfl rfl (by decide) ⟨by omega, by omega⟩ ⟨by omega, by omega⟩ (fun c2 => ?_) (fun c2 => ?_)
        · first | (exfalso; omega; done) | skip
          all_goals (
            refine x_iinc (L' := [some _, some _, some _, some _, none]) (i := 36) (pc' := 66) rfl rfl rfl rfl (by decide) rfl ?_
            refine x_goto (i := 37) (pc' := 4) rfl (by decide) ?_
            (refine AW.le ?_ h; simp [lvle]; done)
            skip)
        · first | (exfalso; omega; done) | skip
          all_goals (
            refine x_iload_n (i := 19) (pc' := 32) rfl rfl rfl rfl ?_
            refine x_istore_n (L' := [some _, some _, some _, some _, none]) (i := 20) (pc' := 33) rfl rfl rfl rfl (by decide) rfl ?_
            refine x_iconst (i := 21) (pc' := 34) rfl rfl ?_
            refine x_istore (L' := [some _, some _, some _, some _, some _]) (i := 22) (pc' := 36) rfl rfl rfl (by decide) rfl ?_
            exfalso; omega
            skip)
        skip)
theorem bw_loop {G : GG} {m : Mem} {Q : Option Value → Mem → Prop} (hM : MR m) (hc : CMd m) (hwd : WDn m) (h : BW G 2 mX12_bestWay Q 4 [some (.ref (G.2.2.2 76)), some (.int (J ((bwm m).1))), some (.int (J (720))), none, none] [] (bwm m).2) : BW G 2 mX12_bestWay Q 4 [some (.ref (G.2.2.2 76)), some (.int (J (-1))), some (.int (J (0))), none, none] [] m := by
  refine up_ind1 (P := fun (k : Int) (x : Int × Mem) => BW G 2 mX12_bestWay Q 4 [some (.ref (G.2.2.2 76)), some (.int (J (x.1))), some (.int (J (k))), none, none] [] x.2) (fun (k : Int) (x : Int × Mem) => bwr k x) (fun (k : Int) (x : Int × Mem) => BWI m x) (720) (0) ((-1, m)) (by omega) (⟨by show (-1 : Int) ≤ -1 ∧ (-1 : Int) ≤ 160; omega, hM, rfl, rfl, rfl⟩) (fun k x hj0 hj hi => bwr_I hc hwd (by omega) hi) (fun k x hj0 hj hi hk => ?_) (fun hi => ?_)
  · have hl := trm_I (k := k) (m := x.2) (by omega) hi.2.1
    have e7 : trm k x.2 77 = m 77 := (trm_ne k x.2 (by decide)).trans hi.2.2.1
    unfold bwr at hk
    refine x_iload_n (i := 4) (pc' := 5) rfl rfl rfl rfl ?_
    refine x_sipush (i := 5) (pc' := 8) rfl rfl (by decide) ?_
    refine x_icmpge (i := 6) (pc' := 11) (tgt := 69) rfl rfl (by decide) ⟨by omega, by omega⟩ ⟨by omega, by omega⟩ (fun c1 => by exfalso; omega) (fun c1 => ?_)
    refine x_aload_n (i := 7) (pc' := 12) rfl rfl rfl rfl ?_
    refine x_iload_n (i := 8) (pc' := 13) rfl rfl rfl rfl ?_
    refine m_callV (i := 9) (pc' := 16) (av := [_]) (rest := []) rfl rfl (by decide) lX12_242 (sh76 G) rfl rfl rfl rfl rfl (Nat.le_of_ble_eq_true rfl) (Nat.le_refl _) (Nat.le_refl _) (s_X12_tries (by omega) ?_)
    dsimp only [psh]
    exact bw_one hi.1 (by unfold CMd; rw [e7]; exact hc) (by unfold WDn; rw [e7]; exact hwd) hl.2 hk
  · skip
    exact h
theorem bw_ret {G : GG} {x : Mem} {Q : Option Value → Mem → Prop} {b : Int} (hQ : Q (some (.int (J b))) x) : BW G 2 mX12_bestWay Q 4 [some (.ref (G.2.2.2 76)), some (.int (J (b))), some (.int (J (720))), none, none] [] x := by
  refine x_iload_n (i := 4) (pc' := 5) rfl rfl rfl rfl ?_
  refine x_sipush (i := 5) (pc' := 8) rfl rfl (by decide) ?_
  refine x_icmpge (i := 6) (pc' := 11) (tgt := 69) rfl rfl (by decide) ⟨by omega, by omega⟩ ⟨by omega, by omega⟩ (fun c1 => ?_) (fun c1 => by exfalso; omega)
  refine x_iload_n (i := 38) (pc' := 70) rfl rfl rfl rfl ?_
  exact m_ireturn (i := 39) rfl rfl (hQ)
theorem s_X12_bestWay {G : GG} {m : Mem} {Q : Option Value → Mem → Prop} (hM : MR m) (hc : CMd m) (hwd : WDn m) (hQ : Q (some (.int (J ((bwm m).1)))) ((bwm m).2)) : CM G 2 mX12_bestWay [.ref (G.2.2.2 76)] m Q := by
  refine CM.of dkX12_bestWay (Or.inl rfl) [some _, none, none, none, none] rfl (Nat.le_of_ble_eq_true rfl) ?_
  refine x_iconst (i := 0) (pc' := 1) rfl rfl ?_
  refine x_istore_n (L' := [some _, some _, none, none, none]) (i := 1) (pc' := 2) rfl rfl rfl rfl (by decide) rfl ?_
  refine x_iconst (i := 2) (pc' := 3) rfl rfl ?_
  refine x_istore_n (L' := [some _, some _, some _, none, none]) (i := 3) (pc' := 4) rfl rfl rfl rfl (by decide) rfl ?_
  refine bw_loop hM hc hwd ?_
  exact bw_ret hQ
theorem be_tail {G : GG} {x : Mem} {Q : Option Value → Mem → Prop} {a w : Int} (ra : -1 ≤ a ∧ a ≤ 5) (hQ : Q (some (.int (J (if a = -1 then w else x 81 a)))) x) : BW G 3 mX12_best Q 25 [some (.ref (G.2.2.2 76)), some (.int (J (a))), none] [.int (J (w))] x := by
  refine x_istore_n (L' := [some _, some _, some _]) (i := 12) (pc' := 26) rfl rfl rfl rfl (by decide) rfl ?_
  refine x_iload_n (i := 13) (pc' := 27) rfl rfl rfl rfl ?_
  refine x_iconst (i := 14) (pc' := 28) rfl rfl ?_
  refine x_icmpne (i := 15) (pc' := 31) (tgt := 35) rfl rfl (by decide) ⟨by omega, by omega⟩ ⟨by omega, by omega⟩ (fun c1 => ?_) (fun c1 => ?_)
  · skip
    refine x_aload_n (i := 18) (pc' := 36) rfl rfl rfl rfl ?_
    refine m_getf (i := 19) (pc' := 39) rfl rfl flX12_22 (sh76 G) rfl rfl ?_
    refine x_iload_n (i := 20) (pc' := 40) rfl rfl rfl rfl ?_
    refine m_iald (i := 21) (pc' := 41) rfl rfl (sh81 G) (by decide) ⟨by omega, by omega⟩ ?_
    exact m_ireturn (i := 22) rfl rfl (by (repeat' split at hQ) <;> first | exact hQ | (exfalso; omega))
  · skip
    refine x_iload_n (i := 16) (pc' := 32) rfl rfl rfl rfl ?_
    refine x_goto (i := 17) (pc' := 41) rfl (by decide) ?_
    exact m_ireturn (i := 22) rfl rfl (by (repeat' split at hQ) <;> first | exact hQ | (exfalso; omega))
theorem be_no {G : GG} {m : Mem} {Q : Option Value → Mem → Prop} {a : Int} (ra : rg a) (hcc : ¬ (-1 ≤ a ∧ a ≤ 5)) (hQ : Q (some (.int (J (-2)))) (rfm m (-2))) : BW G 3 mX12_best Q 0 [some (.ref (G.2.2.2 76)), some (.int (J (a))), none] [] m := by
  refine x_iload_n (i := 0) (pc' := 1) rfl rfl rfl rfl ?_
  refine x_i2l (i := 1) (pc' := 2) rfl rfl (by (repeat' split at *) <;> omega) ?_
  refine x_ldc2 (i := 2) (pc' := 5) rfl rfl kX12_137 ?_
  refine x_ldc2 (i := 3) (pc' := 8) rfl rfl kX12_93 ?_
  refine m_callS (i := 4) (pc' := 11) (av := [_, _, _]) (rest := []) rfl rfl (by decide) lX12_42 rfl rfl (Nat.le_of_ble_eq_true rfl) (Nat.le_refl _) (Nat.le_refl _) (s_X12_in (by omega) (by omega) (by omega) ?_)
  dsimp only [psh]
  refine x_ifne (i := 5) (pc' := 14) (tgt := 21) rfl rfl (by decide) (by (repeat' split at *) <;> omega) (fun c1 => by exfalso; (repeat' split at *) <;> omega) (fun c1 => ?_)
  refine x_aload_n (i := 6) (pc' := 15) rfl rfl rfl rfl ?_
  refine x_bipush (i := 7) (pc' := 17) rfl rfl (by decide) ?_
  refine m_callV (i := 8) (pc' := 20) (av := [_]) (rest := []) rfl rfl (by decide) lX12_69 (sh76 G) rfl rfl rfl rfl rfl (Nat.le_of_ble_eq_true rfl) (Nat.le_refl _) (Nat.le_refl _) (s_X12_refuses (by omega) ?_)
  dsimp only [psh]
  exact m_ireturn (i := 9) rfl rfl (hQ)
theorem be_go {G : GG} {m : Mem} {Q : Option Value → Mem → Prop} {a : Int} (hM : MR m) (hc : CMd m) (hwn : WDn m) (hcc : -1 ≤ a ∧ a ≤ 5) (hk : ∀ r, r = bwm m → BW G 3 mX12_best Q 25 [some (.ref (G.2.2.2 76)), some (.int (J (a))), none] [.int (J (r.1))] r.2) : BW G 3 mX12_best Q 0 [some (.ref (G.2.2.2 76)), some (.int (J (a))), none] [] m := by
  refine x_iload_n (i := 0) (pc' := 1) rfl rfl rfl rfl ?_
  refine x_i2l (i := 1) (pc' := 2) rfl rfl (by (repeat' split at *) <;> omega) ?_
  refine x_ldc2 (i := 2) (pc' := 5) rfl rfl kX12_137 ?_
  refine x_ldc2 (i := 3) (pc' := 8) rfl rfl kX12_93 ?_
  refine m_callS (i := 4) (pc' := 11) (av := [_, _, _]) (rest := []) rfl rfl (by decide) lX12_42 rfl rfl (Nat.le_of_ble_eq_true rfl) (Nat.le_refl _) (Nat.le_refl _) (s_X12_in (by omega) (by omega) (by omega) ?_)
  dsimp only [psh]
  refine x_ifne (i := 5) (pc' := 14) (tgt := 21) rfl rfl (by decide) (by (repeat' split at *) <;> omega) (fun c1 => ?_) (fun c1 => by exfalso; (repeat' split at *) <;> omega)
  refine x_aload_n (i := 10) (pc' := 22) rfl rfl rfl rfl ?_
  refine m_callV (i := 11) (pc' := 25) (av := []) (rest := []) rfl rfl (by decide) lX12_246 (sh76 G) rfl rfl rfl rfl rfl (Nat.le_of_ble_eq_true rfl) (Nat.le_refl _) (Nat.le_refl _) (s_X12_bestWay hM hc hwn ?_)
  dsimp only [psh]
  exact hk _ rfl
theorem s_X12_best {G : GG} {m : Mem} {Q : Option Value → Mem → Prop} {a : Int} (h : GM m) (ra : rg a) (hQ1 : -1 ≤ a ∧ a ≤ 5 → ∀ r, r = bwm m → Q (some (.int (J (if a = -1 then r.1 else r.2 81 a)))) r.2) (hQ0 : ¬ (-1 ≤ a ∧ a ≤ 5) → Q (some (.int (J (-2)))) (rfm m (-2)))  : CM G 3 mX12_best [.ref (G.2.2.2 76), .int (J (a))] m Q := by
  refine CM.of dkX12_best (Or.inl rfl) [some _, some _, none] rfl (Nat.le_of_ble_eq_true rfl) ?_
  obtain ⟨hM, ⟨hn, hc, hv, hst, hw, hwd, hpo⟩, hst5, hle, her⟩ := h
  have hn0 := hn.1; have hn1 := hn.2; have hc0 := hc.1; have hc1 := hc.2
  have hwn := hwd.n hn
  by_cases hcc : -1 ≤ a ∧ a ≤ 5
  · exact be_go hM hc hwn hcc (fun r hr => be_tail hcc (hQ1 hcc r hr))
  · exact be_no ra hcc (hQ0 hcc)
def stb (y : Mem) : Mem := it (fun s (x : Mem) => stm x 77 (134 + s) (x 81 s)) 0 6 y
theorem se_cp {G : GG} {y : Mem} {Q : Option Value → Mem → Prop} {b : Int} (hQ : Q (some (.int (J b))) (stb y)) : BW G 3 mX12_settles Q 16 [some (.ref (G.2.2.2 76)), some (.int (J (b))), some (.int (J (0)))] [] y := by
  refine up_ind0 (P := fun (s : Int) (x : Mem) => BW G 3 mX12_settles Q 16 [some (.ref (G.2.2.2 76)), some (.int (J (b))), some (.int (J (s)))] [] x) (fun (s : Int) (x : Mem) => stm x 77 (134 + s) (x 81 s)) (6) (0) (y) (by omega) (fun s x hj0 hj hk => ?_) ?_
  · skip
    refine x_iload_n (i := 10) (pc' := 17) rfl rfl rfl rfl ?_
    refine x_bipush (i := 11) (pc' := 19) rfl rfl (by decide) ?_
    refine x_icmpge (i := 12) (pc' := 22) (tgt := 44) rfl rfl (by decide) ⟨by omega, by omega⟩ ⟨by omega, by omega⟩ (fun c1 => by exfalso; omega) (fun c1 => ?_)
    refine x_aload_n (i := 13) (pc' := 23) rfl rfl rfl rfl ?_
    refine m_getf (i := 14) (pc' := 26) rfl rfl flX12_7 (sh76 G) rfl rfl ?_
    refine x_sipush (i := 15) (pc' := 29) rfl rfl (by decide) ?_
    refine x_iload_n (i := 16) (pc' := 30) rfl rfl rfl rfl ?_
    refine x_iadd (i := 17) (pc' := 31) rfl rfl ?_
    refine x_aload_n (i := 18) (pc' := 32) rfl rfl rfl rfl ?_
    refine m_getf (i := 19) (pc' := 35) rfl rfl flX12_22 (sh76 G) rfl rfl ?_
    refine x_iload_n (i := 20) (pc' := 36) rfl rfl rfl rfl ?_
    refine m_iald (i := 21) (pc' := 37) rfl rfl (sh81 G) (by decide) ⟨by omega, by omega⟩ ?_
    refine m_iast (i := 22) (pc' := 38) rfl rfl (sh77 G) (by decide) ⟨by omega, by omega⟩ ?_
    refine x_iinc (L' := [some _, some _, some _]) (i := 23) (pc' := 41) rfl rfl rfl rfl (by decide) rfl ?_
    refine x_goto (i := 24) (pc' := 16) rfl (by decide) ?_
    (first | exact hk | (refine AW.le ?_ hk; simp [lvle]; done) | ((repeat' split at hk) <;> first | exact hk | (refine AW.le ?_ hk; simp [lvle]; done) | (exfalso; omega)))
  · skip
    refine x_iload_n (i := 10) (pc' := 17) rfl rfl rfl rfl ?_
    refine x_bipush (i := 11) (pc' := 19) rfl rfl (by decide) ?_
    refine x_icmpge (i := 12) (pc' := 22) (tgt := 44) rfl rfl (by decide) ⟨by omega, by omega⟩ ⟨by omega, by omega⟩ (fun c1 => ?_) (fun c1 => by exfalso; omega)
    refine x_iload_n (i := 25) (pc' := 45) rfl rfl rfl rfl ?_
    exact m_ireturn (i := 26) rfl rfl (hQ)
theorem se_b {G : GG} {y : Mem} {Q : Option Value → Mem → Prop} {w : Int} (hM : MR y) (hc : CMd y) (hwd : WDn y) (hQ : Q (some (.int (J (w - (bwm y).1)))) (stb (bwm y).2)) : BW G 3 mX12_settles Q 8 [some (.ref (G.2.2.2 76)), none, none] [.int (J (w))] y := by
  refine x_aload_n (i := 4) (pc' := 9) rfl rfl rfl rfl ?_
  refine m_callV (i := 5) (pc' := 12) (av := []) (rest := [_]) rfl rfl (by decide) lX12_246 (sh76 G) rfl rfl rfl rfl rfl (Nat.le_of_ble_eq_true rfl) (Nat.le_refl _) (Nat.le_refl _) (s_X12_bestWay hM hc hwd ?_)
  dsimp only [psh]
  refine x_isub (i := 6) (pc' := 13) rfl rfl ?_
  refine x_istore_n (L' := [some _, some _, none]) (i := 7) (pc' := 14) rfl rfl rfl rfl (by decide) rfl ?_
  refine x_iconst (i := 8) (pc' := 15) rfl rfl ?_
  refine x_istore_n (L' := [some _, some _, some _]) (i := 9) (pc' := 16) rfl rfl rfl rfl (by decide) rfl ?_
  exact se_cp hQ
theorem lyw_MR {m : Mem} (h : MR m) : MR (lyw m) := MR_it (fun i x hx => hx.st (hx _ _)) _ _ _ h
theorem se_a {G : GG} {y : Mem} {Q : Option Value → Mem → Prop} (hM : MR y) (hc : CMd y) (hwd : WDn y) (hp : POm y) (hQ : Q (some (.int (J (way_ (lyw y) - (bwm (lyw y)).1)))) (stb (bwm (lyw y)).2)) : BW G 3 mX12_settles Q 4 [some (.ref (G.2.2.2 76)), none, none] [] y := by
  have e77 : lyw y 77 = y 77 := lyw_ne y (by decide)
  refine x_aload_n (i := 2) (pc' := 5) rfl rfl rfl rfl ?_
  refine m_callV (i := 3) (pc' := 8) (av := []) (rest := []) rfl rfl (by decide) lX12_233 (sh76 G) rfl rfl rfl rfl rfl (Nat.le_of_ble_eq_true rfl) (Nat.le_refl _) (Nat.le_refl _) (s_X12_wayNow hc hwd hp ?_)
  dsimp only [psh]
  exact se_b (lyw_MR hM) (by unfold CMd; rw [e77]; exact hc) (by unfold WDn; rw [e77]; exact hwd) hQ
theorem s_X12_settles {G : GG} {m : Mem} {Q : Option Value → Mem → Prop} (h : GM m) (hQ : Q (some (.int (J (way_ (lyw (mdm m)) - (bwm (lyw (mdm m))).1)))) (stb (bwm (lyw (mdm m))).2)) : CM G 3 mX12_settles [.ref (G.2.2.2 76)] m Q := by
  refine CM.of dkX12_settles (Or.inl rfl) [some _, none, none] rfl (Nat.le_of_ble_eq_true rfl) ?_
  obtain ⟨hM, ⟨hn, hc, hv, hst, hw, hwd, hpo⟩, hst5, hle, her⟩ := h
  have hn0 := hn.1; have hn1 := hn.2; have hc0 := hc.1; have hc1 := hc.2
  have hwn := hwd.n hn
  refine x_aload_n (i := 0) (pc' := 1) rfl rfl rfl rfl ?_
  refine m_callV (i := 1) (pc' := 4) (av := []) (rest := []) rfl rfl (by decide) lX12_73 (sh76 G) rfl rfl rfl rfl rfl (Nat.le_of_ble_eq_true rfl) (Nat.le_refl _) (Nat.le_refl _) (s_X12_minds hst5 ?_)
  dsimp only [psh]
  have zlo : ∀ i, i < 140 → mdm m 77 i = m 77 i := fun i hi => mdm_lo hst5 hi
  have zM := mdm_MR hM hst5
  generalize mdm m = y at hQ zlo zM ⊢
  have z0 := zlo 0 (by decide); have z1 := zlo 1 (by decide)
  exact se_a zM (by unfold CMd; rw [z1]; exact hc) (fun i a b => by rw [z1] at b; rw [zlo _ (by omega), zlo _ (by omega), zlo _ (by omega)]; exact hwn i a b) (fun s a b => by rw [zlo _ (by omega)]; exact hpo s a b) hQ
