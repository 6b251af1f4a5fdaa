def adv (x : Mem) : Mem := stm x 76 8 (x 76 8 + 1)
theorem adv_o (x : Mem) : adv x 76 9 = x 76 9 := stm_ix _ _ _ (by decide)
theorem adv_l (x : Mem) : adv x 76 4 = x 76 4 := stm_ix _ _ _ (by decide)
theorem adv_h (x : Mem) : adv x 76 8 = x 76 8 + 1 := stm_eq _ _ _ _
theorem mo_lst (c : Int) : (c = 119 → mo c = 3 ∧ lst c = 1) ∧ (¬ c = 119 → mo c = lst c) ∧ (-1 ≤ lst c ∧ lst c ≤ 6) ∧ (lst c = -1 ↔ mo c = -1) := by
  unfold mo lst
  (repeat' split) <;> omega
theorem bh_in {x : Mem} (h : ¬ bh x = -1) : x 76 8 < x 76 4 := by
  unfold bh at h
  split at h
  · assumption
  · exact absurd rfl h
theorem TM.adv {x : Mem} (h : TM x) (hb : ¬ bh x = -1) : TM (adv x) := h.mv (by have := bh_in hb; have := h.2.2; omega)
theorem TM.ot {m : Mem} (h : TM m) {q : Nat} (hq : q ≠ 76) {k z : Int} (hz : rg z) : TM (stm m q k z) := by
  obtain ⟨h1, h2, h3⟩ := h
  refine ⟨h1.st hz, ?_, ?_⟩ <;> rw [stm_ne _ _ _ (Ne.symm hq)] <;> assumption
theorem blk_o (x : Mem) : blk x 76 9 = x 76 9 := stm_ix _ _ _ (by decide)
theorem blk_l (x : Mem) : blk x 76 4 = x 76 4 := stm_ix _ _ _ (by decide)
theorem blk_h {x : Mem} (h : TM x) : x 76 8 ≤ blk x 76 8 := by
  have := skp_le (x 79) (x 76 4) (x 76 4 - x 76 8).toNat (x 76 8) (by have := h.2.2; omega)
  unfold blk
  rw [stm_eq]
  omega
def rnn (x : Mem) (i : Int) : Mem := if 48 ≤ bh (adv x) ∧ bh (adv x) ≤ 57 then stm (adv (adv x)) 84 (6 * x 76 9 + i) (10 * (bh x - 48) + bh (adv x) - 48) else stm (adv x) 84 (6 * x 76 9 + i) (bh x - 48)
theorem rnn_I {x : Mem} {i : Int} (h : TM x) (hf : 48 ≤ bh x ∧ bh x ≤ 57) : TM (rnn x i) ∧ rnn x i 76 9 = x 76 9 ∧ rnn x i 76 4 = x 76 4 ∧ x 76 8 + 1 ≤ rnn x i 76 8 := by
  have t1 := h.adv (by omega)
  unfold rnn
  split
  · next h2 =>
    have t2 := t1.adv (by omega)
    refine ⟨t2.ot (by decide) (by omega), ?_, ?_, ?_⟩
    · rw [stm_ne _ _ _ (by decide), adv_o, adv_o]
    · rw [stm_ne _ _ _ (by decide), adv_l, adv_l]
    · rw [stm_ne _ _ _ (by decide), adv_h, adv_h]; omega
  · refine ⟨t1.ot (by decide) (by omega), ?_, ?_, ?_⟩
    · rw [stm_ne _ _ _ (by decide), adv_o]
    · rw [stm_ne _ _ _ (by decide), adv_l]
    · rw [stm_ne _ _ _ (by decide), adv_h]; omega
def rl_ : Nat → Int → Mem → (Int × Int) × Mem
  | 0, i, x => ((1, i), x)
  | k + 1, i, x => if 48 ≤ bh x ∧ bh x ≤ 57 then (if (48 ≤ bh (adv x) ∧ bh (adv x) ≤ 57) ∧ (48 ≤ bh (adv (adv x)) ∧ bh (adv (adv x)) ≤ 57) then ((0, i), adv (adv x)) else rl_ k (i + 1) (blk (rnn x i))) else ((1, i), x)
theorem rl_I : ∀ (k : Nat) (i : Int) (x : Mem), 0 ≤ i → TM x → TM (rl_ k i x).2 ∧ (rl_ k i x).2 76 9 = x 76 9 ∧ (rl_ k i x).2 76 4 = x 76 4 ∧ x 76 8 ≤ (rl_ k i x).2 76 8 ∧ (i ≤ (rl_ k i x).1.2 ∧ (rl_ k i x).1.2 ≤ i + k) ∧ ((rl_ k i x).1.1 = 0 ∨ (rl_ k i x).1.1 = 1)
  | 0, i, x, hi, h => by
    unfold rl_
    exact ⟨h, rfl, rfl, Int.le_refl _, by dsimp only; omega, Or.inr rfl⟩
  | k + 1, i, x, hi, h => by
    unfold rl_
    by_cases hf : 48 ≤ bh x ∧ bh x ≤ 57
    · rw [if_pos hf]
      by_cases hg : (48 ≤ bh (adv x) ∧ bh (adv x) ≤ 57) ∧ (48 ≤ bh (adv (adv x)) ∧ bh (adv (adv x)) ≤ 57)
      · rw [if_pos hg]
        have t1 := h.adv (by omega)
        have t2 := t1.adv (by omega)
        exact ⟨t2, by dsimp only; rw [adv_o, adv_o], by dsimp only; rw [adv_l, adv_l], by dsimp only; rw [adv_h, adv_h]; omega, by dsimp only; omega, Or.inl rfl⟩
      · rw [if_neg hg]
        obtain ⟨r1, r2, r3, r4⟩ := rnn_I (i := i) h hf
        have r5 := blk_h r1
        obtain ⟨s1, s2, s3, s4, s5, s6⟩ := rl_I k (i + 1) (blk (rnn x i)) (by omega) r1.sk
        rw [blk_o, r2] at s2
        rw [blk_l, r3] at s3
        exact ⟨s1, s2, s3, by omega, by omega, s6⟩
    · rw [if_neg hf]
      exact ⟨h, rfl, rfl, Int.le_refl _, by dsimp only; omega, Or.inr rfl⟩
def fin_ (c i : Int) (y : Mem) : Mem := stm (stm (stm (adv y) 82 (y 76 9) c) 83 (y 76 9) i) 76 9 (y 76 9 + 1)
def rfn (c i ok : Int) (y : Mem) : Int × Mem := if ok = 0 then (0, y) else if bh y = 59 ∧ lst c ≤ i then (1, fin_ c i y) else (0, y)
def ror (m : Mem) : (Int × Int) × Mem := rl_ (mo (bh m)).toNat 0 (blk (adv m))
def ro (m : Mem) : Int × Mem := if lst (bh m) = -1 then (0, m) else rfn (bh m) (ror m).1.2 (ror m).1.1 (ror m).2
def RO (x : Mem) : Prop := TM x ∧ 0 ≤ x 76 9 ∧ 2 * x 76 9 ≤ x 76 8
theorem ro_I {x : Mem} (h : RO x) (h60 : x 76 9 < 60) : TM (ro x).2 ∧ ((ro x).1 = 0 ∨ (ro x).1 = 1) ∧ (¬ (ro x).1 = 0 → RO (ro x).2 ∧ (ro x).2 76 9 = x 76 9 + 1) := by
  obtain ⟨h1, h2, h3⟩ := h
  have hml := mo_lst (bh x)
  unfold ro
  by_cases hc : lst (bh x) = -1
  · rw [if_pos hc]
    exact ⟨h1, Or.inl rfl, fun hh => absurd rfl hh⟩
  · rw [if_neg hc]
    have hb : ¬ bh x = -1 := fun hh => hc (by rw [hh]; decide)
    have t1 := h1.adv hb
    have t2 := t1.sk
    have t3 := blk_h t1
    rw [adv_h] at t3
    obtain ⟨s1, s2, s3, s4, s5, s6⟩ := rl_I (mo (bh x)).toNat 0 (blk (adv x)) (by omega) t2
    rw [blk_o, adv_o] at s2
    rw [blk_l, adv_l] at s3
    have e1 : (ror x) = rl_ (mo (bh x)).toNat 0 (blk (adv x)) := rfl
    rw [← e1] at s1 s2 s3 s4 s5 s6
    generalize ror x = r at s1 s2 s3 s4 s5 s6 ⊢
    unfold rfn
    split
    · exact ⟨s1, Or.inl rfl, fun hh => absurd rfl hh⟩
    · split
      · next hok =>
        have hbr := bh_rg h1.1
        have u1 := s1.adv (by omega)
        have u2 := (u1.ot (q := 82) (k := r.2 76 9) (z := bh x) (by decide) hbr).ot (q := 83) (k := r.2 76 9) (z := r.1.2) (by decide) (by have := hml.2.2.1; have := mo_le (bh x); omega)
        have e8 : fin_ (bh x) r.1.2 r.2 76 8 = r.2 76 8 + 1 := by unfold fin_; rw [stm_ix _ _ _ (by decide), stm_ne _ _ _ (by decide), stm_ne _ _ _ (by decide), adv_h]
        have e9 : fin_ (bh x) r.1.2 r.2 76 9 = r.2 76 9 + 1 := stm_eq _ _ _ _
        have e4 : fin_ (bh x) r.1.2 r.2 76 4 = r.2 76 4 := by unfold fin_; rw [stm_ix _ _ _ (by decide), stm_ne _ _ _ (by decide), stm_ne _ _ _ (by decide), adv_l]
        have u4 := bh_in (x := r.2) (by omega)
        have u5 : TM (fin_ (bh x) r.1.2 r.2) := ⟨u2.1.st (by omega), by rw [e4, s3]; exact h1.2.1, by rw [e8, e4]; have := s1.2.2; omega⟩
        exact ⟨u5, Or.inr rfl, fun _ => ⟨⟨u5, by dsimp only; rw [e9]; omega, by dsimp only; rw [e9, e8]; omega⟩, by dsimp only; rw [e9]; omega⟩⟩
      · exact ⟨s1, Or.inl rfl, fun hh => absurd rfl hh⟩
theorem ro_tail {G : GG} {Q : Option Value → Mem → Prop} {c i : Int} {x : Mem} {L3 : Option Value} (hx : TM x) (ho : 0 ≤ x 76 9 ∧ x 76 9 < 60) (hc : rg c) (hi : 0 ≤ i ∧ i ≤ 6) (hQ : Q (some (.int (J (rfn c i 1 x).1))) (rfn c i 1 x).2) : BW G 2 mX12_readsOrder Q 138 [some (.ref (G.2.2.2 76)), some (.int (J c)), some (.int (J i)), L3] [] x := by
  have hml := mo_lst c
  have hbr := bh_rg hx.1
  have e1 : adv x 76 9 = x 76 9 := adv_o x
  have e2 : (stm (adv x) 82 (x 76 9) c) 76 9 = x 76 9 := e1
  have e3 : (stm (stm (adv x) 82 (x 76 9) c) 83 (x 76 9) i) 76 9 = x 76 9 := e1
  unfold rfn at hQ
  rw [if_neg (by decide)] at hQ
  by_cases hok : bh x = 59 ∧ lst c ≤ i
  · rw [if_pos hok] at hQ
    refine x_aload_n (i := 79) (pc' := 139) rfl rfl rfl rfl ?_
    refine m_callV (i := 80) (pc' := 142) (av := []) (rest := []) rfl rfl (by decide) lX12_257 (sh76 G) rfl rfl rfl rfl rfl (Nat.le_of_ble_eq_true rfl) (Nat.le_refl _) (Nat.le_refl _) (s_X12_byteHere hx ?_)
    dsimp only [psh]
    refine x_bipush (i := 81) (pc' := 144) rfl rfl (by decide) ?_
    refine x_icmpne (i := 82) (pc' := 147) (tgt := 155) rfl rfl (by decide) ⟨by omega, by omega⟩ ⟨by omega, by omega⟩ (fun c1 => ?_) (fun c1 => ?_)
    · first | (exfalso; omega; done) | skip
      all_goals (
        refine x_iconst (i := 87) (pc' := 156) rfl rfl ?_
        exact m_zreturn (i := 88) rfl rfl (by omega) (hQ)
        skip)
    · first | (exfalso; omega; done) | skip
      all_goals (
        refine x_iload_n (i := 83) (pc' := 148) rfl rfl rfl rfl ?_
        refine x_iload_n (i := 84) (pc' := 149) rfl rfl rfl rfl ?_
        refine m_callS (i := 85) (pc' := 152) (av := [_]) (rest := [_]) rfl rfl (by decide) lX12_264 rfl rfl (Nat.le_of_ble_eq_true rfl) (Nat.le_refl _) (Nat.le_refl _) (s_X12_least hc ?_)
        dsimp only [psh]
        refine x_icmpge (i := 86) (pc' := 155) (tgt := 157) rfl rfl (by decide) ⟨by omega, by omega⟩ ⟨by omega, by omega⟩ (fun c2 => ?_) (fun c2 => ?_)
        · first | (exfalso; omega; done) | skip
          all_goals (
            refine x_aload_n (i := 89) (pc' := 158) rfl rfl rfl rfl ?_
            refine x_dup (i := 90) (pc' := 159) rfl rfl rfl ?_
            refine m_getf (i := 91) (pc' := 162) rfl rfl flX12_254 (sh76 G) rfl rfl ?_
            refine x_iconst (i := 92) (pc' := 163) rfl rfl ?_
            refine x_iadd (i := 93) (pc' := 164) rfl rfl ?_
            refine m_putf (kz := 8) (i := 94) (pc' := 167) rfl rfl flX12_254 (sh76 G) (fun _ => rfl) rfl (Nat.le_of_ble_eq_true rfl) rfl rfl ?_
            show BW G 2 mX12_readsOrder Q 167 _ _ (adv x)
            refine x_aload_n (i := 95) (pc' := 168) rfl rfl rfl rfl ?_
            refine m_getf (i := 96) (pc' := 171) rfl rfl flX12_25 (sh76 G) rfl rfl ?_
            refine x_aload_n (i := 97) (pc' := 172) rfl rfl rfl rfl ?_
            refine m_getf (i := 98) (pc' := 175) rfl rfl flX12_274 (sh76 G) rfl rfl ?_
            rw [e1]
            refine x_iload_n (i := 99) (pc' := 176) rfl rfl rfl rfl ?_
            refine m_iast (i := 100) (pc' := 177) rfl rfl (sh82 G) (by decide) ⟨by omega, by omega⟩ ?_
            refine x_aload_n (i := 101) (pc' := 178) rfl rfl rfl rfl ?_
            refine m_getf (i := 102) (pc' := 181) rfl rfl flX12_28 (sh76 G) rfl rfl ?_
            refine x_aload_n (i := 103) (pc' := 182) rfl rfl rfl rfl ?_
            refine m_getf (i := 104) (pc' := 185) rfl rfl flX12_274 (sh76 G) rfl rfl ?_
            rw [e2]
            refine x_iload_n (i := 105) (pc' := 186) rfl rfl rfl rfl ?_
            refine m_iast (i := 106) (pc' := 187) rfl rfl (sh83 G) (by decide) ⟨by omega, by omega⟩ ?_
            refine x_aload_n (i := 107) (pc' := 188) rfl rfl rfl rfl ?_
            refine x_dup (i := 108) (pc' := 189) rfl rfl rfl ?_
            refine m_getf (i := 109) (pc' := 192) rfl rfl flX12_274 (sh76 G) rfl rfl ?_
            rw [e3]
            refine x_iconst (i := 110) (pc' := 193) rfl rfl ?_
            refine x_iadd (i := 111) (pc' := 194) rfl rfl ?_
            refine m_putf (kz := 9) (i := 112) (pc' := 197) rfl rfl flX12_274 (sh76 G) (fun _ => rfl) rfl (Nat.le_of_ble_eq_true rfl) rfl rfl ?_
            refine x_iconst (i := 113) (pc' := 198) rfl rfl ?_
            exact m_zreturn (i := 114) rfl rfl (by omega) (hQ)
            skip)
        · first | (exfalso; omega; done) | skip
          all_goals (
            refine x_iconst (i := 87) (pc' := 156) rfl rfl ?_
            exact m_zreturn (i := 88) rfl rfl (by omega) (hQ)
            skip)
        skip)
  · rw [if_neg hok] at hQ
    refine x_aload_n (i := 79) (pc' := 139) rfl rfl rfl rfl ?_
    refine m_callV (i := 80) (pc' := 142) (av := []) (rest := []) rfl rfl (by decide) lX12_257 (sh76 G) rfl rfl rfl rfl rfl (Nat.le_of_ble_eq_true rfl) (Nat.le_refl _) (Nat.le_refl _) (s_X12_byteHere hx ?_)
    dsimp only [psh]
    refine x_bipush (i := 81) (pc' := 144) rfl rfl (by decide) ?_
    refine x_icmpne (i := 82) (pc' := 147) (tgt := 155) rfl rfl (by decide) ⟨by omega, by omega⟩ ⟨by omega, by omega⟩ (fun c1 => ?_) (fun c1 => ?_)
    · first | (exfalso; omega; done) | skip
      all_goals (
        refine x_iconst (i := 87) (pc' := 156) rfl rfl ?_
        exact m_zreturn (i := 88) rfl rfl (by omega) (hQ)
        skip)
    · first | (exfalso; omega; done) | skip
      all_goals (
        refine x_iload_n (i := 83) (pc' := 148) rfl rfl rfl rfl ?_
        refine x_iload_n (i := 84) (pc' := 149) rfl rfl rfl rfl ?_
        refine m_callS (i := 85) (pc' := 152) (av := [_]) (rest := [_]) rfl rfl (by decide) lX12_264 rfl rfl (Nat.le_of_ble_eq_true rfl) (Nat.le_refl _) (Nat.le_refl _) (s_X12_least hc ?_)
        dsimp only [psh]
        refine x_icmpge (i := 86) (pc' := 155) (tgt := 157) rfl rfl (by decide) ⟨by omega, by omega⟩ ⟨by omega, by omega⟩ (fun c2 => ?_) (fun c2 => ?_)
        · first | (exfalso; omega; done) | skip
          all_goals (
            exfalso; omega
            skip)
        · first | (exfalso; omega; done) | skip
          all_goals (
            refine x_iconst (i := 87) (pc' := 156) rfl rfl ?_
            exact m_zreturn (i := 88) rfl rfl (by omega) (hQ)
            skip)
        skip)
theorem ro_loop {G : GG} {Q : Option Value → Mem → Prop} {c : Int} (hc : rg c) (hc1 : ¬ lst c = -1) : ∀ (k : Nat) (i : Int) (x : Mem) (L3 : Option Value), i + k = mo c → 0 ≤ i → TM x → (0 ≤ x 76 9 ∧ x 76 9 < 60) → Q (some (.int (J (rfn c (rl_ k i x).1.2 (rl_ k i x).1.1 (rl_ k i x).2).1))) (rfn c (rl_ k i x).1.2 (rl_ k i x).1.1 (rl_ k i x).2).2 → BW G 2 mX12_readsOrder Q 31 [some (.ref (G.2.2.2 76)), some (.int (J c)), some (.int (J i)), L3] [] x := by
  have hml := mo_lst c
  have hmo := mo_le c
  intro k
  induction k with
  | zero =>
    intro i x L3 h1 h2 hx ho hQ
    unfold rl_ at hQ
    refine x_aload_n (i := 19) (pc' := 32) rfl rfl rfl rfl ?_
    refine m_callV (i := 20) (pc' := 35) (av := []) (rest := []) rfl rfl (by decide) lX12_270 (sh76 G) rfl rfl rfl rfl rfl (Nat.le_of_ble_eq_true rfl) (Nat.le_refl _) (Nat.le_refl _) (s_X12_isFigure hx ?_)
    dsimp only [psh]
    refine x_ifeq (i := 21) (pc' := 38) (tgt := 138) rfl rfl (by decide) (by (repeat' split at *) <;> omega) (fun c1 => ?_) (fun c1 => ?_)
    · skip
      exact ro_tail hx ho hc (by omega) hQ
    · skip
      refine x_iload_n (i := 22) (pc' := 39) rfl rfl rfl rfl ?_
      refine x_iload_n (i := 23) (pc' := 40) rfl rfl rfl rfl ?_
      refine x_bipush (i := 24) (pc' := 42) rfl rfl (by decide) ?_
      refine x_icmpne (i := 25) (pc' := 45) (tgt := 49) rfl rfl (by decide) (by (repeat' split at *) <;> omega) (by (repeat' split at *) <;> omega) (fun c2 => ?_) (fun c2 => ?_)
      · skip
        refine x_iload_n (i := 28) (pc' := 50) rfl rfl rfl rfl ?_
        refine m_callS (i := 29) (pc' := 53) (av := [_]) (rest := [_]) rfl rfl (by decide) lX12_264 rfl rfl (Nat.le_of_ble_eq_true rfl) (Nat.le_refl _) (Nat.le_refl _) (s_X12_least hc ?_)
        dsimp only [psh]
        refine x_icmpge (i := 30) (pc' := 56) (tgt := 138) rfl rfl (by decide) (by (repeat' split at *) <;> omega) (by (repeat' split at *) <;> omega) (fun c3 => ?_) (fun c3 => by exfalso; omega)
        exact ro_tail hx ho hc (by omega) hQ
      · skip
        refine x_iconst (i := 26) (pc' := 46) rfl rfl ?_
        refine x_goto (i := 27) (pc' := 53) rfl (by decide) ?_
        refine x_icmpge (i := 30) (pc' := 56) (tgt := 138) rfl rfl (by decide) (by (repeat' split at *) <;> omega) (by (repeat' split at *) <;> omega) (fun c4 => ?_) (fun c4 => by exfalso; omega)
        exact ro_tail hx ho hc (by omega) hQ
  | succ k ih =>
    intro i x L3 h1 h2 hx ho hQ
    unfold rl_ at hQ
    by_cases hf : 48 ≤ bh x ∧ bh x ≤ 57
    · rw [if_pos hf] at hQ
      have t1 := hx.adv (by omega)
      have hr := rnn_I (i := i) hx hf
      obtain ⟨hr1, hr2, hr3, hr4⟩ := hr
      by_cases hf2 : 48 ≤ bh (adv x) ∧ bh (adv x) ≤ 57
      · have t2 := t1.adv (by omega)
        have hrn : rnn x i = stm (adv (adv x)) 84 (6 * x 76 9 + i) (10 * (bh x - 48) + bh (adv x) - 48) := by unfold rnn; rw [if_pos hf2]
        by_cases hf3 : 48 ≤ bh (adv (adv x)) ∧ bh (adv (adv x)) ≤ 57
        · rw [if_pos ⟨hf2, hf3⟩] at hQ
          refine x_aload_n (i := 19) (pc' := 32) rfl rfl rfl rfl ?_
          refine m_callV (i := 20) (pc' := 35) (av := []) (rest := []) rfl rfl (by decide) lX12_270 (sh76 G) rfl rfl rfl rfl rfl (Nat.le_of_ble_eq_true rfl) (Nat.le_refl _) (Nat.le_refl _) (s_X12_isFigure (by assumption) ?_)
          dsimp only [psh]
          rw [if_pos hf]
          refine x_ifeq (i := 21) (pc' := 38) (tgt := 138) rfl rfl (by decide) ⟨by omega, by omega⟩ (fun c1 => ?_) (fun c1 => ?_)
          · first | (exfalso; omega; done) | skip
            all_goals (
              exact ro_tail hx ho hc (by omega) hQ
              skip)
          · first | (exfalso; omega; done) | skip
            all_goals (
              refine x_iload_n (i := 22) (pc' := 39) rfl rfl rfl rfl ?_
              refine x_iload_n (i := 23) (pc' := 40) rfl rfl rfl rfl ?_
              refine x_bipush (i := 24) (pc' := 42) rfl rfl (by decide) ?_
              refine x_icmpne (i := 25) (pc' := 45) (tgt := 49) rfl rfl (by decide) ⟨by omega, by omega⟩ ⟨by omega, by omega⟩ (fun c2 => ?_) (fun c2 => ?_)
              · first | (exfalso; omega; done) | skip
                all_goals (
                  refine x_iload_n (i := 28) (pc' := 50) rfl rfl rfl rfl ?_
                  refine m_callS (i := 29) (pc' := 53) (av := [_]) (rest := [_]) rfl rfl (by decide) lX12_264 rfl rfl (Nat.le_of_ble_eq_true rfl) (Nat.le_refl _) (Nat.le_refl _) (s_X12_least hc ?_)
                  dsimp only [psh]
                  refine x_icmpge (i := 30) (pc' := 56) (tgt := 138) rfl rfl (by decide) ⟨by omega, by omega⟩ ⟨by omega, by omega⟩ (fun c3 => ?_) (fun c3 => ?_)
                  · first | (exfalso; omega; done) | skip
                    all_goals (
                      exact ro_tail hx ho hc (by omega) hQ
                      skip)
                  · first | (exfalso; omega; done) | skip
                    all_goals (
                      refine x_aload_n (i := 31) (pc' := 57) rfl rfl rfl rfl ?_
                      refine m_callV (i := 32) (pc' := 60) (av := []) (rest := []) rfl rfl (by decide) lX12_257 (sh76 G) rfl rfl rfl rfl rfl (Nat.le_of_ble_eq_true rfl) (Nat.le_refl _) (Nat.le_refl _) (s_X12_byteHere (by assumption) ?_)
                      dsimp only [psh]
                      refine x_bipush (i := 33) (pc' := 62) rfl rfl (by decide) ?_
                      refine x_isub (i := 34) (pc' := 63) rfl rfl ?_
                      refine x_istore_n (L' := [some _, some _, some _, some _]) (i := 35) (pc' := 64) rfl rfl rfl rfl (by decide) rfl ?_
                      refine x_aload_n (i := 36) (pc' := 65) rfl rfl rfl rfl ?_
                      refine x_dup (i := 37) (pc' := 66) rfl rfl rfl ?_
                      refine m_getf (i := 38) (pc' := 69) rfl rfl flX12_254 (sh76 G) rfl rfl ?_
                      refine x_iconst (i := 39) (pc' := 70) rfl rfl ?_
                      refine x_iadd (i := 40) (pc' := 71) rfl rfl ?_
                      refine m_putf (kz := 8) (i := 41) (pc' := 74) rfl rfl flX12_254 (sh76 G) (fun _ => rfl) rfl (Nat.le_of_ble_eq_true rfl) rfl rfl ?_
                      show BW G 2 mX12_readsOrder Q 74 _ _ (adv x)
                      refine x_aload_n (i := 42) (pc' := 75) rfl rfl rfl rfl ?_
                      refine m_callV (i := 43) (pc' := 78) (av := []) (rest := []) rfl rfl (by decide) lX12_270 (sh76 G) rfl rfl rfl rfl rfl (Nat.le_of_ble_eq_true rfl) (Nat.le_refl _) (Nat.le_refl _) (s_X12_isFigure (by assumption) ?_)
                      dsimp only [psh]
                      rw [if_pos hf2]
                      refine x_ifeq (i := 44) (pc' := 81) (tgt := 113) rfl rfl (by decide) ⟨by omega, by omega⟩ (fun c4 => ?_) (fun c4 => ?_)
                      · first | (exfalso; omega; done) | skip
                        all_goals (
                          refine x_aload_n (i := 65) (pc' := 114) rfl rfl rfl rfl ?_
                          refine m_getf (i := 66) (pc' := 117) rfl rfl flX12_31 (sh76 G) rfl rfl ?_
                          refine x_bipush (i := 67) (pc' := 119) rfl rfl (by decide) ?_
                          refine x_aload_n (i := 68) (pc' := 120) rfl rfl rfl rfl ?_
                          refine m_getf (i := 69) (pc' := 123) rfl rfl flX12_274 (sh76 G) rfl rfl ?_
                          rw [adv_o, adv_o]
                          refine x_imul (i := 70) (pc' := 124) rfl rfl ?_
                          refine x_iload_n (i := 71) (pc' := 125) rfl rfl rfl rfl ?_
                          refine x_iadd (i := 72) (pc' := 126) rfl rfl ?_
                          refine x_iload_n (i := 73) (pc' := 127) rfl rfl rfl rfl ?_
                          refine m_iast (i := 74) (pc' := 128) rfl rfl (sh84 G) (by decide) ⟨by omega, by omega⟩ ?_
                          refine x_iinc (L' := [some _, some _, some _, some _]) (i := 75) (pc' := 131) rfl rfl rfl rfl (by decide) rfl ?_
                          rw [← hrn]
                          refine x_aload_n (i := 76) (pc' := 132) rfl rfl rfl rfl ?_
                          refine m_callV (i := 77) (pc' := 135) (av := []) (rest := []) rfl rfl (by decide) lX12_267 (sh76 G) rfl rfl rfl rfl rfl (Nat.le_of_ble_eq_true rfl) (Nat.le_refl _) (Nat.le_refl _) (s_X12_blanks (by assumption) ?_)
                          dsimp only [psh]
                          refine x_goto (i := 78) (pc' := 31) rfl (by decide) ?_
                          exact ih (i + 1) _ (some _) (by omega) (by omega) hr1.sk (by rw [blk_o]; omega) hQ
                          skip)
                      · first | (exfalso; omega; done) | skip
                        all_goals (
                          refine x_bipush (i := 45) (pc' := 83) rfl rfl (by decide) ?_
                          refine x_iload_n (i := 46) (pc' := 84) rfl rfl rfl rfl ?_
                          refine x_imul (i := 47) (pc' := 85) rfl rfl ?_
                          refine x_aload_n (i := 48) (pc' := 86) rfl rfl rfl rfl ?_
                          refine m_callV (i := 49) (pc' := 89) (av := []) (rest := [_]) rfl rfl (by decide) lX12_257 (sh76 G) rfl rfl rfl rfl rfl (Nat.le_of_ble_eq_true rfl) (Nat.le_refl _) (Nat.le_refl _) (s_X12_byteHere (by assumption) ?_)
                          dsimp only [psh]
                          refine x_iadd (i := 50) (pc' := 90) rfl rfl ?_
                          refine x_bipush (i := 51) (pc' := 92) rfl rfl (by decide) ?_
                          refine x_isub (i := 52) (pc' := 93) rfl rfl ?_
                          refine x_istore_n (L' := [some _, some _, some _, some _]) (i := 53) (pc' := 94) rfl rfl rfl rfl (by decide) rfl ?_
                          refine x_aload_n (i := 54) (pc' := 95) rfl rfl rfl rfl ?_
                          refine x_dup (i := 55) (pc' := 96) rfl rfl rfl ?_
                          refine m_getf (i := 56) (pc' := 99) rfl rfl flX12_254 (sh76 G) rfl rfl ?_
                          refine x_iconst (i := 57) (pc' := 100) rfl rfl ?_
                          refine x_iadd (i := 58) (pc' := 101) rfl rfl ?_
                          refine m_putf (kz := 8) (i := 59) (pc' := 104) rfl rfl flX12_254 (sh76 G) (fun _ => rfl) rfl (Nat.le_of_ble_eq_true rfl) rfl rfl ?_
                          show BW G 2 mX12_readsOrder Q 104 _ _ (adv (adv x))
                          refine x_aload_n (i := 60) (pc' := 105) rfl rfl rfl rfl ?_
                          refine m_callV (i := 61) (pc' := 108) (av := []) (rest := []) rfl rfl (by decide) lX12_270 (sh76 G) rfl rfl rfl rfl rfl (Nat.le_of_ble_eq_true rfl) (Nat.le_refl _) (Nat.le_refl _) (s_X12_isFigure (by assumption) ?_)
                          dsimp only [psh]
                          rw [if_pos hf3]
                          refine x_ifeq (i := 62) (pc' := 111) (tgt := 113) rfl rfl (by decide) ⟨by omega, by omega⟩ (fun c5 => ?_) (fun c5 => ?_)
                          · first | (exfalso; omega; done) | skip
                            all_goals (
                              refine x_aload_n (i := 65) (pc' := 114) rfl rfl rfl rfl ?_
                              refine m_getf (i := 66) (pc' := 117) rfl rfl flX12_31 (sh76 G) rfl rfl ?_
                              refine x_bipush (i := 67) (pc' := 119) rfl rfl (by decide) ?_
                              refine x_aload_n (i := 68) (pc' := 120) rfl rfl rfl rfl ?_
                              refine m_getf (i := 69) (pc' := 123) rfl rfl flX12_274 (sh76 G) rfl rfl ?_
                              rw [adv_o, adv_o]
                              refine x_imul (i := 70) (pc' := 124) rfl rfl ?_
                              refine x_iload_n (i := 71) (pc' := 125) rfl rfl rfl rfl ?_
                              refine x_iadd (i := 72) (pc' := 126) rfl rfl ?_
                              refine x_iload_n (i := 73) (pc' := 127) rfl rfl rfl rfl ?_
                              refine m_iast (i := 74) (pc' := 128) rfl rfl (sh84 G) (by decide) ⟨by omega, by omega⟩ ?_
                              refine x_iinc (L' := [some _, some _, some _, some _]) (i := 75) (pc' := 131) rfl rfl rfl rfl (by decide) rfl ?_
                              rw [← hrn]
                              refine x_aload_n (i := 76) (pc' := 132) rfl rfl rfl rfl ?_
                              refine m_callV (i := 77) (pc' := 135) (av := []) (rest := []) rfl rfl (by decide) lX12_267 (sh76 G) rfl rfl rfl rfl rfl (Nat.le_of_ble_eq_true rfl) (Nat.le_refl _) (Nat.le_refl _) (s_X12_blanks (by assumption) ?_)
                              dsimp only [psh]
                              refine x_goto (i := 78) (pc' := 31) rfl (by decide) ?_
                              exact ih (i + 1) _ (some _) (by omega) (by omega) hr1.sk (by rw [blk_o]; omega) hQ
                              skip)
                          · first | (exfalso; omega; done) | skip
                            all_goals (
                              refine x_iconst (i := 63) (pc' := 112) rfl rfl ?_
                              exact m_zreturn (i := 64) rfl rfl (by omega) (hQ)
                              skip)
                          skip)
                      skip)
                  skip)
              · first | (exfalso; omega; done) | skip
                all_goals (
                  refine x_iconst (i := 26) (pc' := 46) rfl rfl ?_
                  refine x_goto (i := 27) (pc' := 53) rfl (by decide) ?_
                  refine x_icmpge (i := 30) (pc' := 56) (tgt := 138) rfl rfl (by decide) ⟨by omega, by omega⟩ ⟨by omega, by omega⟩ (fun c6 => ?_) (fun c6 => ?_)
                  · first | (exfalso; omega; done) | skip
                    all_goals (
                      exact ro_tail hx ho hc (by omega) hQ
                      skip)
                  · first | (exfalso; omega; done) | skip
                    all_goals (
                      refine x_aload_n (i := 31) (pc' := 57) rfl rfl rfl rfl ?_
                      refine m_callV (i := 32) (pc' := 60) (av := []) (rest := []) rfl rfl (by decide) lX12_257 (sh76 G) rfl rfl rfl rfl rfl (Nat.le_of_ble_eq_true rfl) (Nat.le_refl _) (Nat.le_refl _) (s_X12_byteHere (by assumption) ?_)
                      dsimp only [psh]
                      refine x_bipush (i := 33) (pc' := 62) rfl rfl (by decide) ?_
                      refine x_isub (i := 34) (pc' := 63) rfl rfl ?_
                      refine x_istore_n (L' := [some _, some _, some _, some _]) (i := 35) (pc' := 64) rfl rfl rfl rfl (by decide) rfl ?_
                      refine x_aload_n (i := 36) (pc' := 65) rfl rfl rfl rfl ?_
                      refine x_dup (i := 37) (pc' := 66) rfl rfl rfl ?_
                      refine m_getf (i := 38) (pc' := 69) rfl rfl flX12_254 (sh76 G) rfl rfl ?_
                      refine x_iconst (i := 39) (pc' := 70) rfl rfl ?_
                      refine x_iadd (i := 40) (pc' := 71) rfl rfl ?_
                      refine m_putf (kz := 8) (i := 41) (pc' := 74) rfl rfl flX12_254 (sh76 G) (fun _ => rfl) rfl (Nat.le_of_ble_eq_true rfl) rfl rfl ?_
                      show BW G 2 mX12_readsOrder Q 74 _ _ (adv x)
                      refine x_aload_n (i := 42) (pc' := 75) rfl rfl rfl rfl ?_
                      refine m_callV (i := 43) (pc' := 78) (av := []) (rest := []) rfl rfl (by decide) lX12_270 (sh76 G) rfl rfl rfl rfl rfl (Nat.le_of_ble_eq_true rfl) (Nat.le_refl _) (Nat.le_refl _) (s_X12_isFigure (by assumption) ?_)
                      dsimp only [psh]
                      rw [if_pos hf2]
                      refine x_ifeq (i := 44) (pc' := 81) (tgt := 113) rfl rfl (by decide) ⟨by omega, by omega⟩ (fun c7 => ?_) (fun c7 => ?_)
                      · first | (exfalso; omega; done) | skip
                        all_goals (
                          refine x_aload_n (i := 65) (pc' := 114) rfl rfl rfl rfl ?_
                          refine m_getf (i := 66) (pc' := 117) rfl rfl flX12_31 (sh76 G) rfl rfl ?_
                          refine x_bipush (i := 67) (pc' := 119) rfl rfl (by decide) ?_
                          refine x_aload_n (i := 68) (pc' := 120) rfl rfl rfl rfl ?_
                          refine m_getf (i := 69) (pc' := 123) rfl rfl flX12_274 (sh76 G) rfl rfl ?_
                          rw [adv_o, adv_o]
                          refine x_imul (i := 70) (pc' := 124) rfl rfl ?_
                          refine x_iload_n (i := 71) (pc' := 125) rfl rfl rfl rfl ?_
                          refine x_iadd (i := 72) (pc' := 126) rfl rfl ?_
                          refine x_iload_n (i := 73) (pc' := 127) rfl rfl rfl rfl ?_
                          refine m_iast (i := 74) (pc' := 128) rfl rfl (sh84 G) (by decide) ⟨by omega, by omega⟩ ?_
                          refine x_iinc (L' := [some _, some _, some _, some _]) (i := 75) (pc' := 131) rfl rfl rfl rfl (by decide) rfl ?_
                          rw [← hrn]
                          refine x_aload_n (i := 76) (pc' := 132) rfl rfl rfl rfl ?_
                          refine m_callV (i := 77) (pc' := 135) (av := []) (rest := []) rfl rfl (by decide) lX12_267 (sh76 G) rfl rfl rfl rfl rfl (Nat.le_of_ble_eq_true rfl) (Nat.le_refl _) (Nat.le_refl _) (s_X12_blanks (by assumption) ?_)
                          dsimp only [psh]
                          refine x_goto (i := 78) (pc' := 31) rfl (by decide) ?_
                          exact ih (i + 1) _ (some _) (by omega) (by omega) hr1.sk (by rw [blk_o]; omega) hQ
                          skip)
                      · first | (exfalso; omega; done) | skip
                        all_goals (
                          refine x_bipush (i := 45) (pc' := 83) rfl rfl (by decide) ?_
                          refine x_iload_n (i := 46) (pc' := 84) rfl rfl rfl rfl ?_
                          refine x_imul (i := 47) (pc' := 85) rfl rfl ?_
                          refine x_aload_n (i := 48) (pc' := 86) rfl rfl rfl rfl ?_
                          refine m_callV (i := 49) (pc' := 89) (av := []) (rest := [_]) rfl rfl (by decide) lX12_257 (sh76 G) rfl rfl rfl rfl rfl (Nat.le_of_ble_eq_true rfl) (Nat.le_refl _) (Nat.le_refl _) (s_X12_byteHere (by assumption) ?_)
                          dsimp only [psh]
                          refine x_iadd (i := 50) (pc' := 90) rfl rfl ?_
                          refine x_bipush (i := 51) (pc' := 92) rfl rfl (by decide) ?_
                          refine x_isub (i := 52) (pc' := 93) rfl rfl ?_
                          refine x_istore_n (L' := [some _, some _, some _, some _]) (i := 53) (pc' := 94) rfl rfl rfl rfl (by decide) rfl ?_
                          refine x_aload_n (i := 54) (pc' := 95) rfl rfl rfl rfl ?_
                          refine x_dup (i := 55) (pc' := 96) rfl rfl rfl ?_
                          refine m_getf (i := 56) (pc' := 99) rfl rfl flX12_254 (sh76 G) rfl rfl ?_
                          refine x_iconst (i := 57) (pc' := 100) rfl rfl ?_
                          refine x_iadd (i := 58) (pc' := 101) rfl rfl ?_
                          refine m_putf (kz := 8) (i := 59) (pc' := 104) rfl rfl flX12_254 (sh76 G) (fun _ => rfl) rfl (Nat.le_of_ble_eq_true rfl) rfl rfl ?_
                          show BW G 2 mX12_readsOrder Q 104 _ _ (adv (adv x))
                          refine x_aload_n (i := 60) (pc' := 105) rfl rfl rfl rfl ?_
                          refine m_callV (i := 61) (pc' := 108) (av := []) (rest := []) rfl rfl (by decide) lX12_270 (sh76 G) rfl rfl rfl rfl rfl (Nat.le_of_ble_eq_true rfl) (Nat.le_refl _) (Nat.le_refl _) (s_X12_isFigure (by assumption) ?_)
                          dsimp only [psh]
                          rw [if_pos hf3]
                          refine x_ifeq (i := 62) (pc' := 111) (tgt := 113) rfl rfl (by decide) ⟨by omega, by omega⟩ (fun c8 => ?_) (fun c8 => ?_)
                          · first | (exfalso; omega; done) | skip
                            all_goals (
                              refine x_aload_n (i := 65) (pc' := 114) rfl rfl rfl rfl ?_
                              refine m_getf (i := 66) (pc' := 117) rfl rfl flX12_31 (sh76 G) rfl rfl ?_
                              refine x_bipush (i := 67) (pc' := 119) rfl rfl (by decide) ?_
                              refine x_aload_n (i := 68) (pc' := 120) rfl rfl rfl rfl ?_
                              refine m_getf (i := 69) (pc' := 123) rfl rfl flX12_274 (sh76 G) rfl rfl ?_
                              rw [adv_o, adv_o]
                              refine x_imul (i := 70) (pc' := 124) rfl rfl ?_
                              refine x_iload_n (i := 71) (pc' := 125) rfl rfl rfl rfl ?_
                              refine x_iadd (i := 72) (pc' := 126) rfl rfl ?_
                              refine x_iload_n (i := 73) (pc' := 127) rfl rfl rfl rfl ?_
                              refine m_iast (i := 74) (pc' := 128) rfl rfl (sh84 G) (by decide) ⟨by omega, by omega⟩ ?_
                              refine x_iinc (L' := [some _, some _, some _, some _]) (i := 75) (pc' := 131) rfl rfl rfl rfl (by decide) rfl ?_
                              rw [← hrn]
                              refine x_aload_n (i := 76) (pc' := 132) rfl rfl rfl rfl ?_
                              refine m_callV (i := 77) (pc' := 135) (av := []) (rest := []) rfl rfl (by decide) lX12_267 (sh76 G) rfl rfl rfl rfl rfl (Nat.le_of_ble_eq_true rfl) (Nat.le_refl _) (Nat.le_refl _) (s_X12_blanks (by assumption) ?_)
                              dsimp only [psh]
                              refine x_goto (i := 78) (pc' := 31) rfl (by decide) ?_
                              exact ih (i + 1) _ (some _) (by omega) (by omega) hr1.sk (by rw [blk_o]; omega) hQ
                              skip)
                          · first | (exfalso; omega; done) | skip
                            all_goals (
                              refine x_iconst (i := 63) (pc' := 112) rfl rfl ?_
                              exact m_zreturn (i := 64) rfl rfl (by omega) (hQ)
                              skip)
                          skip)
                      skip)
                  skip)
              skip)
        · rw [if_neg (fun hh => hf3 hh.2)] at hQ
          refine x_aload_n (i := 19) (pc' := 32) rfl rfl rfl rfl ?_
          refine m_callV (i := 20) (pc' := 35) (av := []) (rest := []) rfl rfl (by decide) lX12_270 (sh76 G) rfl rfl rfl rfl rfl (Nat.le_of_ble_eq_true rfl) (Nat.le_refl _) (Nat.le_refl _) (s_X12_isFigure (by assumption) ?_)
          dsimp only [psh]
          rw [if_pos hf]
          refine x_ifeq (i := 21) (pc' := 38) (tgt := 138) rfl rfl (by decide) ⟨by omega, by omega⟩ (fun c1 => ?_) (fun c1 => ?_)
          · first | (exfalso; omega; done) | skip
            all_goals (
              exact ro_tail hx ho hc (by omega) hQ
              skip)
          · first | (exfalso; omega; done) | skip
            all_goals (
              refine x_iload_n (i := 22) (pc' := 39) rfl rfl rfl rfl ?_
              refine x_iload_n (i := 23) (pc' := 40) rfl rfl rfl rfl ?_
              refine x_bipush (i := 24) (pc' := 42) rfl rfl (by decide) ?_
              refine x_icmpne (i := 25) (pc' := 45) (tgt := 49) rfl rfl (by decide) ⟨by omega, by omega⟩ ⟨by omega, by omega⟩ (fun c2 => ?_) (fun c2 => ?_)
              · first | (exfalso; omega; done) | skip
                all_goals (
                  refine x_iload_n (i := 28) (pc' := 50) rfl rfl rfl rfl ?_
                  refine m_callS (i := 29) (pc' := 53) (av := [_]) (rest := [_]) rfl rfl (by decide) lX12_264 rfl rfl (Nat.le_of_ble_eq_true rfl) (Nat.le_refl _) (Nat.le_refl _) (s_X12_least hc ?_)
                  dsimp only [psh]
                  refine x_icmpge (i := 30) (pc' := 56) (tgt := 138) rfl rfl (by decide) ⟨by omega, by omega⟩ ⟨by omega, by omega⟩ (fun c3 => ?_) (fun c3 => ?_)
                  · first | (exfalso; omega; done) | skip
                    all_goals (
                      exact ro_tail hx ho hc (by omega) hQ
                      skip)
                  · first | (exfalso; omega; done) | skip
                    all_goals (
                      refine x_aload_n (i := 31) (pc' := 57) rfl rfl rfl rfl ?_
                      refine m_callV (i := 32) (pc' := 60) (av := []) (rest := []) rfl rfl (by decide) lX12_257 (sh76 G) rfl rfl rfl rfl rfl (Nat.le_of_ble_eq_true rfl) (Nat.le_refl _) (Nat.le_refl _) (s_X12_byteHere (by assumption) ?_)
                      dsimp only [psh]
                      refine x_bipush (i := 33) (pc' := 62) rfl rfl (by decide) ?_
                      refine x_isub (i := 34) (pc' := 63) rfl rfl ?_
                      refine x_istore_n (L' := [some _, some _, some _, some _]) (i := 35) (pc' := 64) rfl rfl rfl rfl (by decide) rfl ?_
                      refine x_aload_n (i := 36) (pc' := 65) rfl rfl rfl rfl ?_
                      refine x_dup (i := 37) (pc' := 66) rfl rfl rfl ?_
                      refine m_getf (i := 38) (pc' := 69) rfl rfl flX12_254 (sh76 G) rfl rfl ?_
                      refine x_iconst (i := 39) (pc' := 70) rfl rfl ?_
                      refine x_iadd (i := 40) (pc' := 71) rfl rfl ?_
                      refine m_putf (kz := 8) (i := 41) (pc' := 74) rfl rfl flX12_254 (sh76 G) (fun _ => rfl) rfl (Nat.le_of_ble_eq_true rfl) rfl rfl ?_
                      show BW G 2 mX12_readsOrder Q 74 _ _ (adv x)
                      refine x_aload_n (i := 42) (pc' := 75) rfl rfl rfl rfl ?_
                      refine m_callV (i := 43) (pc' := 78) (av := []) (rest := []) rfl rfl (by decide) lX12_270 (sh76 G) rfl rfl rfl rfl rfl (Nat.le_of_ble_eq_true rfl) (Nat.le_refl _) (Nat.le_refl _) (s_X12_isFigure (by assumption) ?_)
                      dsimp only [psh]
                      rw [if_pos hf2]
                      refine x_ifeq (i := 44) (pc' := 81) (tgt := 113) rfl rfl (by decide) ⟨by omega, by omega⟩ (fun c4 => ?_) (fun c4 => ?_)
                      · first | (exfalso; omega; done) | skip
                        all_goals (
                          refine x_aload_n (i := 65) (pc' := 114) rfl rfl rfl rfl ?_
                          refine m_getf (i := 66) (pc' := 117) rfl rfl flX12_31 (sh76 G) rfl rfl ?_
                          refine x_bipush (i := 67) (pc' := 119) rfl rfl (by decide) ?_
                          refine x_aload_n (i := 68) (pc' := 120) rfl rfl rfl rfl ?_
                          refine m_getf (i := 69) (pc' := 123) rfl rfl flX12_274 (sh76 G) rfl rfl ?_
                          rw [adv_o, adv_o]
                          refine x_imul (i := 70) (pc' := 124) rfl rfl ?_
                          refine x_iload_n (i := 71) (pc' := 125) rfl rfl rfl rfl ?_
                          refine x_iadd (i := 72) (pc' := 126) rfl rfl ?_
                          refine x_iload_n (i := 73) (pc' := 127) rfl rfl rfl rfl ?_
                          refine m_iast (i := 74) (pc' := 128) rfl rfl (sh84 G) (by decide) ⟨by omega, by omega⟩ ?_
                          refine x_iinc (L' := [some _, some _, some _, some _]) (i := 75) (pc' := 131) rfl rfl rfl rfl (by decide) rfl ?_
                          rw [← hrn]
                          refine x_aload_n (i := 76) (pc' := 132) rfl rfl rfl rfl ?_
                          refine m_callV (i := 77) (pc' := 135) (av := []) (rest := []) rfl rfl (by decide) lX12_267 (sh76 G) rfl rfl rfl rfl rfl (Nat.le_of_ble_eq_true rfl) (Nat.le_refl _) (Nat.le_refl _) (s_X12_blanks (by assumption) ?_)
                          dsimp only [psh]
                          refine x_goto (i := 78) (pc' := 31) rfl (by decide) ?_
                          exact ih (i + 1) _ (some _) (by omega) (by omega) hr1.sk (by rw [blk_o]; omega) hQ
                          skip)
                      · first | (exfalso; omega; done) | skip
                        all_goals (
                          refine x_bipush (i := 45) (pc' := 83) rfl rfl (by decide) ?_
                          refine x_iload_n (i := 46) (pc' := 84) rfl rfl rfl rfl ?_
                          refine x_imul (i := 47) (pc' := 85) rfl rfl ?_
                          refine x_aload_n (i := 48) (pc' := 86) rfl rfl rfl rfl ?_
                          refine m_callV (i := 49) (pc' := 89) (av := []) (rest := [_]) rfl rfl (by decide) lX12_257 (sh76 G) rfl rfl rfl rfl rfl (Nat.le_of_ble_eq_true rfl) (Nat.le_refl _) (Nat.le_refl _) (s_X12_byteHere (by assumption) ?_)
                          dsimp only [psh]
                          refine x_iadd (i := 50) (pc' := 90) rfl rfl ?_
                          refine x_bipush (i := 51) (pc' := 92) rfl rfl (by decide) ?_
                          refine x_isub (i := 52) (pc' := 93) rfl rfl ?_
                          refine x_istore_n (L' := [some _, some _, some _, some _]) (i := 53) (pc' := 94) rfl rfl rfl rfl (by decide) rfl ?_
                          refine x_aload_n (i := 54) (pc' := 95) rfl rfl rfl rfl ?_
                          refine x_dup (i := 55) (pc' := 96) rfl rfl rfl ?_
                          refine m_getf (i := 56) (pc' := 99) rfl rfl flX12_254 (sh76 G) rfl rfl ?_
                          refine x_iconst (i := 57) (pc' := 100) rfl rfl ?_
                          refine x_iadd (i := 58) (pc' := 101) rfl rfl ?_
                          refine m_putf (kz := 8) (i := 59) (pc' := 104) rfl rfl flX12_254 (sh76 G) (fun _ => rfl) rfl (Nat.le_of_ble_eq_true rfl) rfl rfl ?_
                          show BW G 2 mX12_readsOrder Q 104 _ _ (adv (adv x))
                          refine x_aload_n (i := 60) (pc' := 105) rfl rfl rfl rfl ?_
                          refine m_callV (i := 61) (pc' := 108) (av := []) (rest := []) rfl rfl (by decide) lX12_270 (sh76 G) rfl rfl rfl rfl rfl (Nat.le_of_ble_eq_true rfl) (Nat.le_refl _) (Nat.le_refl _) (s_X12_isFigure (by assumption) ?_)
                          dsimp only [psh]
                          rw [if_neg hf3]
                          refine x_ifeq (i := 62) (pc' := 111) (tgt := 113) rfl rfl (by decide) ⟨by omega, by omega⟩ (fun c5 => ?_) (fun c5 => ?_)
                          · first | (exfalso; omega; done) | skip
                            all_goals (
                              refine x_aload_n (i := 65) (pc' := 114) rfl rfl rfl rfl ?_
                              refine m_getf (i := 66) (pc' := 117) rfl rfl flX12_31 (sh76 G) rfl rfl ?_
                              refine x_bipush (i := 67) (pc' := 119) rfl rfl (by decide) ?_
                              refine x_aload_n (i := 68) (pc' := 120) rfl rfl rfl rfl ?_
                              refine m_getf (i := 69) (pc' := 123) rfl rfl flX12_274 (sh76 G) rfl rfl ?_
                              rw [adv_o, adv_o]
                              refine x_imul (i := 70) (pc' := 124) rfl rfl ?_
                              refine x_iload_n (i := 71) (pc' := 125) rfl rfl rfl rfl ?_
                              refine x_iadd (i := 72) (pc' := 126) rfl rfl ?_
                              refine x_iload_n (i := 73) (pc' := 127) rfl rfl rfl rfl ?_
                              refine m_iast (i := 74) (pc' := 128) rfl rfl (sh84 G) (by decide) ⟨by omega, by omega⟩ ?_
                              refine x_iinc (L' := [some _, some _, some _, some _]) (i := 75) (pc' := 131) rfl rfl rfl rfl (by decide) rfl ?_
                              rw [← hrn]
                              refine x_aload_n (i := 76) (pc' := 132) rfl rfl rfl rfl ?_
                              refine m_callV (i := 77) (pc' := 135) (av := []) (rest := []) rfl rfl (by decide) lX12_267 (sh76 G) rfl rfl rfl rfl rfl (Nat.le_of_ble_eq_true rfl) (Nat.le_refl _) (Nat.le_refl _) (s_X12_blanks (by assumption) ?_)
                              dsimp only [psh]
                              refine x_goto (i := 78) (pc' := 31) rfl (by decide) ?_
                              exact ih (i + 1) _ (some _) (by omega) (by omega) hr1.sk (by rw [blk_o]; omega) hQ
                              skip)
                          · first | (exfalso; omega; done) | skip
                            all_goals (
                              refine x_iconst (i := 63) (pc' := 112) rfl rfl ?_
                              exact m_zreturn (i := 64) rfl rfl (by omega) (hQ)
                              skip)
                          skip)
                      skip)
                  skip)
              · first | (exfalso; omega; done) | skip
                all_goals (
                  refine x_iconst (i := 26) (pc' := 46) rfl rfl ?_
                  refine x_goto (i := 27) (pc' := 53) rfl (by decide) ?_
                  refine x_icmpge (i := 30) (pc' := 56) (tgt := 138) rfl rfl (by decide) ⟨by omega, by omega⟩ ⟨by omega, by omega⟩ (fun c6 => ?_) (fun c6 => ?_)
                  · first | (exfalso; omega; done) | skip
                    all_goals (
                      exact ro_tail hx ho hc (by omega) hQ
                      skip)
                  · first | (exfalso; omega; done) | skip
                    all_goals (
                      refine x_aload_n (i := 31) (pc' := 57) rfl rfl rfl rfl ?_
                      refine m_callV (i := 32) (pc' := 60) (av := []) (rest := []) rfl rfl (by decide) lX12_257 (sh76 G) rfl rfl rfl rfl rfl (Nat.le_of_ble_eq_true rfl) (Nat.le_refl _) (Nat.le_refl _) (s_X12_byteHere (by assumption) ?_)
                      dsimp only [psh]
                      refine x_bipush (i := 33) (pc' := 62) rfl rfl (by decide) ?_
                      refine x_isub (i := 34) (pc' := 63) rfl rfl ?_
                      refine x_istore_n (L' := [some _, some _, some _, some _]) (i := 35) (pc' := 64) rfl rfl rfl rfl (by decide) rfl ?_
                      refine x_aload_n (i := 36) (pc' := 65) rfl rfl rfl rfl ?_
                      refine x_dup (i := 37) (pc' := 66) rfl rfl rfl ?_
                      refine m_getf (i := 38) (pc' := 69) rfl rfl flX12_254 (sh76 G) rfl rfl ?_
                      refine x_iconst (i := 39) (pc' := 70) rfl rfl ?_
                      refine x_iadd (i := 40) (pc' := 71) rfl rfl ?_
                      refine m_putf (kz := 8) (i := 41) (pc' := 74) rfl rfl flX12_254 (sh76 G) (fun _ => rfl) rfl (Nat.le_of_ble_eq_true rfl) rfl rfl ?_
                      show BW G 2 mX12_readsOrder Q 74 _ _ (adv x)
                      refine x_aload_n (i := 42) (pc' := 75) rfl rfl rfl rfl ?_
                      refine m_callV (i := 43) (pc' := 78) (av := []) (rest := []) rfl rfl (by decide) lX12_270 (sh76 G) rfl rfl rfl rfl rfl (Nat.le_of_ble_eq_true rfl) (Nat.le_refl _) (Nat.le_refl _) (s_X12_isFigure (by assumption) ?_)
                      dsimp only [psh]
                      rw [if_pos hf2]
                      refine x_ifeq (i := 44) (pc' := 81) (tgt := 113) rfl rfl (by decide) ⟨by omega, by omega⟩ (fun c7 => ?_) (fun c7 => ?_)
                      · first | (exfalso; omega; done) | skip
                        all_goals (
                          refine x_aload_n (i := 65) (pc' := 114) rfl rfl rfl rfl ?_
                          refine m_getf (i := 66) (pc' := 117) rfl rfl flX12_31 (sh76 G) rfl rfl ?_
                          refine x_bipush (i := 67) (pc' := 119) rfl rfl (by decide) ?_
                          refine x_aload_n (i := 68) (pc' := 120) rfl rfl rfl rfl ?_
                          refine m_getf (i := 69) (pc' := 123) rfl rfl flX12_274 (sh76 G) rfl rfl ?_
                          rw [adv_o, adv_o]
                          refine x_imul (i := 70) (pc' := 124) rfl rfl ?_
                          refine x_iload_n (i := 71) (pc' := 125) rfl rfl rfl rfl ?_
                          refine x_iadd (i := 72) (pc' := 126) rfl rfl ?_
                          refine x_iload_n (i := 73) (pc' := 127) rfl rfl rfl rfl ?_
                          refine m_iast (i := 74) (pc' := 128) rfl rfl (sh84 G) (by decide) ⟨by omega, by omega⟩ ?_
                          refine x_iinc (L' := [some _, some _, some _, some _]) (i := 75) (pc' := 131) rfl rfl rfl rfl (by decide) rfl ?_
                          rw [← hrn]
                          refine x_aload_n (i := 76) (pc' := 132) rfl rfl rfl rfl ?_
                          refine m_callV (i := 77) (pc' := 135) (av := []) (rest := []) rfl rfl (by decide) lX12_267 (sh76 G) rfl rfl rfl rfl rfl (Nat.le_of_ble_eq_true rfl) (Nat.le_refl _) (Nat.le_refl _) (s_X12_blanks (by assumption) ?_)
                          dsimp only [psh]
                          refine x_goto (i := 78) (pc' := 31) rfl (by decide) ?_
                          exact ih (i + 1) _ (some _) (by omega) (by omega) hr1.sk (by rw [blk_o]; omega) hQ
                          skip)
                      · first | (exfalso; omega; done) | skip
                        all_goals (
                          refine x_bipush (i := 45) (pc' := 83) rfl rfl (by decide) ?_
                          refine x_iload_n (i := 46) (pc' := 84) rfl rfl rfl rfl ?_
                          refine x_imul (i := 47) (pc' := 85) rfl rfl ?_
                          refine x_aload_n (i := 48) (pc' := 86) rfl rfl rfl rfl ?_
                          refine m_callV (i := 49) (pc' := 89) (av := []) (rest := [_]) rfl rfl (by decide) lX12_257 (sh76 G) rfl rfl rfl rfl rfl (Nat.le_of_ble_eq_true rfl) (Nat.le_refl _) (Nat.le_refl _) (s_X12_byteHere (by assumption) ?_)
                          dsimp only [psh]
                          refine x_iadd (i := 50) (pc' := 90) rfl rfl ?_
                          refine x_bipush (i := 51) (pc' := 92) rfl rfl (by decide) ?_
                          refine x_isub (i := 52) (pc' := 93) rfl rfl ?_
                          refine x_istore_n (L' := [some _, some _, some _, some _]) (i := 53) (pc' := 94) rfl rfl rfl rfl (by decide) rfl ?_
                          refine x_aload_n (i := 54) (pc' := 95) rfl rfl rfl rfl ?_
                          refine x_dup (i := 55) (pc' := 96) rfl rfl rfl ?_
                          refine m_getf (i := 56) (pc' := 99) rfl rfl flX12_254 (sh76 G) rfl rfl ?_
                          refine x_iconst (i := 57) (pc' := 100) rfl rfl ?_
                          refine x_iadd (i := 58) (pc' := 101) rfl rfl ?_
                          refine m_putf (kz := 8) (i := 59) (pc' := 104) rfl rfl flX12_254 (sh76 G) (fun _ => rfl) rfl (Nat.le_of_ble_eq_true rfl) rfl rfl ?_
                          show BW G 2 mX12_readsOrder Q 104 _ _ (adv (adv x))
                          refine x_aload_n (i := 60) (pc' := 105) rfl rfl rfl rfl ?_
                          refine m_callV (i := 61) (pc' := 108) (av := []) (rest := []) rfl rfl (by decide) lX12_270 (sh76 G) rfl rfl rfl rfl rfl (Nat.le_of_ble_eq_true rfl) (Nat.le_refl _) (Nat.le_refl _) (s_X12_isFigure (by assumption) ?_)
                          dsimp only [psh]
                          rw [if_neg hf3]
                          refine x_ifeq (i := 62) (pc' := 111) (tgt := 113) rfl rfl (by decide) ⟨by omega, by omega⟩ (fun c8 => ?_) (fun c8 => ?_)
                          · first | (exfalso; omega; done) | skip
                            all_goals (
                              refine x_aload_n (i := 65) (pc' := 114) rfl rfl rfl rfl ?_
                              refine m_getf (i := 66) (pc' := 117) rfl rfl flX12_31 (sh76 G) rfl rfl ?_
                              refine x_bipush (i := 67) (pc' := 119) rfl rfl (by decide) ?_
                              refine x_aload_n (i := 68) (pc' := 120) rfl rfl rfl rfl ?_
                              refine m_getf (i := 69) (pc' := 123) rfl rfl flX12_274 (sh76 G) rfl rfl ?_
                              rw [adv_o, adv_o]
                              refine x_imul (i := 70) (pc' := 124) rfl rfl ?_
                              refine x_iload_n (i := 71) (pc' := 125) rfl rfl rfl rfl ?_
                              refine x_iadd (i := 72) (pc' := 126) rfl rfl ?_
                              refine x_iload_n (i := 73) (pc' := 127) rfl rfl rfl rfl ?_
                              refine m_iast (i := 74) (pc' := 128) rfl rfl (sh84 G) (by decide) ⟨by omega, by omega⟩ ?_
                              refine x_iinc (L' := [some _, some _, some _, some _]) (i := 75) (pc' := 131) rfl rfl rfl rfl (by decide) rfl ?_
                              rw [← hrn]
                              refine x_aload_n (i := 76) (pc' := 132) rfl rfl rfl rfl ?_
                              refine m_callV (i := 77) (pc' := 135) (av := []) (rest := []) rfl rfl (by decide) lX12_267 (sh76 G) rfl rfl rfl rfl rfl (Nat.le_of_ble_eq_true rfl) (Nat.le_refl _) (Nat.le_refl _) (s_X12_blanks (by assumption) ?_)
                              dsimp only [psh]
                              refine x_goto (i := 78) (pc' := 31) rfl (by decide) ?_
                              exact ih (i + 1) _ (some _) (by omega) (by omega) hr1.sk (by rw [blk_o]; omega) hQ
                              skip)
                          · first | (exfalso; omega; done) | skip
                            all_goals (
                              refine x_iconst (i := 63) (pc' := 112) rfl rfl ?_
                              exact m_zreturn (i := 64) rfl rfl (by omega) (hQ)
                              skip)
                          skip)
                      skip)
                  skip)
              skip)
      · have hrn : rnn x i = stm (adv x) 84 (6 * x 76 9 + i) (bh x - 48) := by unfold rnn; rw [if_neg hf2]
        rw [if_neg (fun hh => hf2 hh.1)] at hQ
        refine x_aload_n (i := 19) (pc' := 32) rfl rfl rfl rfl ?_
        refine m_callV (i := 20) (pc' := 35) (av := []) (rest := []) rfl rfl (by decide) lX12_270 (sh76 G) rfl rfl rfl rfl rfl (Nat.le_of_ble_eq_true rfl) (Nat.le_refl _) (Nat.le_refl _) (s_X12_isFigure (by assumption) ?_)
        dsimp only [psh]
        rw [if_pos hf]
        refine x_ifeq (i := 21) (pc' := 38) (tgt := 138) rfl rfl (by decide) ⟨by omega, by omega⟩ (fun c1 => ?_) (fun c1 => ?_)
        · first | (exfalso; omega; done) | skip
          all_goals (
            exact ro_tail hx ho hc (by omega) hQ
            skip)
        · first | (exfalso; omega; done) | skip
          all_goals (
            refine x_iload_n (i := 22) (pc' := 39) rfl rfl rfl rfl ?_
            refine x_iload_n (i := 23) (pc' := 40) rfl rfl rfl rfl ?_
            refine x_bipush (i := 24) (pc' := 42) rfl rfl (by decide) ?_
            refine x_icmpne (i := 25) (pc' := 45) (tgt := 49) rfl rfl (by decide) ⟨by omega, by omega⟩ ⟨by omega, by omega⟩ (fun c2 => ?_) (fun c2 => ?_)
            · first | (exfalso; omega; done) | skip
              all_goals (
                refine x_iload_n (i := 28) (pc' := 50) rfl rfl rfl rfl ?_
                refine m_callS (i := 29) (pc' := 53) (av := [_]) (rest := [_]) rfl rfl (by decide) lX12_264 rfl rfl (Nat.le_of_ble_eq_true rfl) (Nat.le_refl _) (Nat.le_refl _) (s_X12_least hc ?_)
                dsimp only [psh]
                refine x_icmpge (i := 30) (pc' := 56) (tgt := 138) rfl rfl (by decide) ⟨by omega, by omega⟩ ⟨by omega, by omega⟩ (fun c3 => ?_) (fun c3 => ?_)
                · first | (exfalso; omega; done) | skip
                  all_goals (
                    exact ro_tail hx ho hc (by omega) hQ
                    skip)
                · first | (exfalso; omega; done) | skip
                  all_goals (
                    refine x_aload_n (i := 31) (pc' := 57) rfl rfl rfl rfl ?_
                    refine m_callV (i := 32) (pc' := 60) (av := []) (rest := []) rfl rfl (by decide) lX12_257 (sh76 G) rfl rfl rfl rfl rfl (Nat.le_of_ble_eq_true rfl) (Nat.le_refl _) (Nat.le_refl _) (s_X12_byteHere (by assumption) ?_)
                    dsimp only [psh]
                    refine x_bipush (i := 33) (pc' := 62) rfl rfl (by decide) ?_
                    refine x_isub (i := 34) (pc' := 63) rfl rfl ?_
                    refine x_istore_n (L' := [some _, some _, some _, some _]) (i := 35) (pc' := 64) rfl rfl rfl rfl (by decide) rfl ?_
                    refine x_aload_n (i := 36) (pc' := 65) rfl rfl rfl rfl ?_
                    refine x_dup (i := 37) (pc' := 66) rfl rfl rfl ?_
                    refine m_getf (i := 38) (pc' := 69) rfl rfl flX12_254 (sh76 G) rfl rfl ?_
                    refine x_iconst (i := 39) (pc' := 70) rfl rfl ?_
                    refine x_iadd (i := 40) (pc' := 71) rfl rfl ?_
                    refine m_putf (kz := 8) (i := 41) (pc' := 74) rfl rfl flX12_254 (sh76 G) (fun _ => rfl) rfl (Nat.le_of_ble_eq_true rfl) rfl rfl ?_
                    show BW G 2 mX12_readsOrder Q 74 _ _ (adv x)
                    refine x_aload_n (i := 42) (pc' := 75) rfl rfl rfl rfl ?_
                    refine m_callV (i := 43) (pc' := 78) (av := []) (rest := []) rfl rfl (by decide) lX12_270 (sh76 G) rfl rfl rfl rfl rfl (Nat.le_of_ble_eq_true rfl) (Nat.le_refl _) (Nat.le_refl _) (s_X12_isFigure (by assumption) ?_)
                    dsimp only [psh]
                    rw [if_neg hf2]
                    refine x_ifeq (i := 44) (pc' := 81) (tgt := 113) rfl rfl (by decide) ⟨by omega, by omega⟩ (fun c4 => ?_) (fun c4 => ?_)
                    · first | (exfalso; omega; done) | skip
                      all_goals (
                        refine x_aload_n (i := 65) (pc' := 114) rfl rfl rfl rfl ?_
                        refine m_getf (i := 66) (pc' := 117) rfl rfl flX12_31 (sh76 G) rfl rfl ?_
                        refine x_bipush (i := 67) (pc' := 119) rfl rfl (by decide) ?_
                        refine x_aload_n (i := 68) (pc' := 120) rfl rfl rfl rfl ?_
                        refine m_getf (i := 69) (pc' := 123) rfl rfl flX12_274 (sh76 G) rfl rfl ?_
                        rw [adv_o]
                        refine x_imul (i := 70) (pc' := 124) rfl rfl ?_
                        refine x_iload_n (i := 71) (pc' := 125) rfl rfl rfl rfl ?_
                        refine x_iadd (i := 72) (pc' := 126) rfl rfl ?_
                        refine x_iload_n (i := 73) (pc' := 127) rfl rfl rfl rfl ?_
                        refine m_iast (i := 74) (pc' := 128) rfl rfl (sh84 G) (by decide) ⟨by omega, by omega⟩ ?_
                        refine x_iinc (L' := [some _, some _, some _, some _]) (i := 75) (pc' := 131) rfl rfl rfl rfl (by decide) rfl ?_
                        rw [← hrn]
                        refine x_aload_n (i := 76) (pc' := 132) rfl rfl rfl rfl ?_
                        refine m_callV (i := 77) (pc' := 135) (av := []) (rest := []) rfl rfl (by decide) lX12_267 (sh76 G) rfl rfl rfl rfl rfl (Nat.le_of_ble_eq_true rfl) (Nat.le_refl _) (Nat.le_refl _) (s_X12_blanks (by assumption) ?_)
                        dsimp only [psh]
                        refine x_goto (i := 78) (pc' := 31) rfl (by decide) ?_
                        exact ih (i + 1) _ (some _) (by omega) (by omega) hr1.sk (by rw [blk_o]; omega) hQ
                        skip)
                    · first | (exfalso; omega; done) | skip
                      all_goals (
                        refine x_bipush (i := 45) (pc' := 83) rfl rfl (by decide) ?_
                        refine x_iload_n (i := 46) (pc' := 84) rfl rfl rfl rfl ?_
                        refine x_imul (i := 47) (pc' := 85) rfl rfl ?_
                        refine x_aload_n (i := 48) (pc' := 86) rfl rfl rfl rfl ?_
                        refine m_callV (i := 49) (pc' := 89) (av := []) (rest := [_]) rfl rfl (by decide) lX12_257 (sh76 G) rfl rfl rfl rfl rfl (Nat.le_of_ble_eq_true rfl) (Nat.le_refl _) (Nat.le_refl _) (s_X12_byteHere (by assumption) ?_)
                        dsimp only [psh]
                        refine x_iadd (i := 50) (pc' := 90) rfl rfl ?_
                        refine x_bipush (i := 51) (pc' := 92) rfl rfl (by decide) ?_
                        refine x_isub (i := 52) (pc' := 93) rfl rfl ?_
                        refine x_istore_n (L' := [some _, some _, some _, some _]) (i := 53) (pc' := 94) rfl rfl rfl rfl (by decide) rfl ?_
                        refine x_aload_n (i := 54) (pc' := 95) rfl rfl rfl rfl ?_
                        refine x_dup (i := 55) (pc' := 96) rfl rfl rfl ?_
                        refine m_getf (i := 56) (pc' := 99) rfl rfl flX12_254 (sh76 G) rfl rfl ?_
                        refine x_iconst (i := 57) (pc' := 100) rfl rfl ?_
                        refine x_iadd (i := 58) (pc' := 101) rfl rfl ?_
                        refine m_putf (kz := 8) (i := 59) (pc' := 104) rfl rfl flX12_254 (sh76 G) (fun _ => rfl) rfl (Nat.le_of_ble_eq_true rfl) rfl rfl ?_
                        refine x_aload_n (i := 60) (pc' := 105) rfl rfl rfl rfl ?_
                        refine m_callV (i := 61) (pc' := 108) (av := []) (rest := []) rfl rfl (by decide) lX12_270 (sh76 G) rfl rfl rfl rfl rfl (Nat.le_of_ble_eq_true rfl) (Nat.le_refl _) (Nat.le_refl _) (s_X12_isFigure (by assumption) ?_)
                        dsimp only [psh]
                        refine x_ifeq (i := 62) (pc' := 111) (tgt := 113) rfl rfl (by decide) ⟨by omega, by omega⟩ (fun c5 => ?_) (fun c5 => ?_)
                        · first | (exfalso; omega; done) | skip
                          all_goals (
                            refine x_aload_n (i := 65) (pc' := 114) rfl rfl rfl rfl ?_
                            refine m_getf (i := 66) (pc' := 117) rfl rfl flX12_31 (sh76 G) rfl rfl ?_
                            refine x_bipush (i := 67) (pc' := 119) rfl rfl (by decide) ?_
                            refine x_aload_n (i := 68) (pc' := 120) rfl rfl rfl rfl ?_
                            refine m_getf (i := 69) (pc' := 123) rfl rfl flX12_274 (sh76 G) rfl rfl ?_
                            rw [adv_o]
                            refine x_imul (i := 70) (pc' := 124) rfl rfl ?_
                            refine x_iload_n (i := 71) (pc' := 125) rfl rfl rfl rfl ?_
                            refine x_iadd (i := 72) (pc' := 126) rfl rfl ?_
                            refine x_iload_n (i := 73) (pc' := 127) rfl rfl rfl rfl ?_
                            refine m_iast (i := 74) (pc' := 128) rfl rfl (sh84 G) (by decide) ⟨by omega, by omega⟩ ?_
                            refine x_iinc (L' := [some _, some _, some _, some _]) (i := 75) (pc' := 131) rfl rfl rfl rfl (by decide) rfl ?_
                            rw [← hrn]
                            refine x_aload_n (i := 76) (pc' := 132) rfl rfl rfl rfl ?_
                            refine m_callV (i := 77) (pc' := 135) (av := []) (rest := []) rfl rfl (by decide) lX12_267 (sh76 G) rfl rfl rfl rfl rfl (Nat.le_of_ble_eq_true rfl) (Nat.le_refl _) (Nat.le_refl _) (s_X12_blanks (by assumption) ?_)
                            dsimp only [psh]
                            refine x_goto (i := 78) (pc' := 31) rfl (by decide) ?_
                            exact ih (i + 1) _ (some _) (by omega) (by omega) hr1.sk (by rw [blk_o]; omega) hQ
                            skip)
                        · first | (exfalso; omega; done) | skip
                          all_goals (
                            refine x_iconst (i := 63) (pc' := 112) rfl rfl ?_
                            exact m_zreturn (i := 64) rfl rfl (by omega) (hQ)
                            skip)
                        skip)
                    skip)
                skip)
            · first | (exfalso; omega; done) | skip
              all_goals (
                refine x_iconst (i := 26) (pc' := 46) rfl rfl ?_
                refine x_goto (i := 27) (pc' := 53) rfl (by decide) ?_
                refine x_icmpge (i := 30) (pc' := 56) (tgt := 138) rfl rfl (by decide) ⟨by omega, by omega⟩ ⟨by omega, by omega⟩ (fun c6 => ?_) (fun c6 => ?_)
                · first | (exfalso; omega; done) | skip
                  all_goals (
                    exact ro_tail hx ho hc (by omega) hQ
                    skip)
                · first | (exfalso; omega; done) | skip
                  all_goals (
                    refine x_aload_n (i := 31) (pc' := 57) rfl rfl rfl rfl ?_
                    refine m_callV (i := 32) (pc' := 60) (av := []) (rest := []) rfl rfl (by decide) lX12_257 (sh76 G) rfl rfl rfl rfl rfl (Nat.le_of_ble_eq_true rfl) (Nat.le_refl _) (Nat.le_refl _) (s_X12_byteHere (by assumption) ?_)
                    dsimp only [psh]
                    refine x_bipush (i := 33) (pc' := 62) rfl rfl (by decide) ?_
                    refine x_isub (i := 34) (pc' := 63) rfl rfl ?_
                    refine x_istore_n (L' := [some _, some _, some _, some _]) (i := 35) (pc' := 64) rfl rfl rfl rfl (by decide) rfl ?_
                    refine x_aload_n (i := 36) (pc' := 65) rfl rfl rfl rfl ?_
                    refine x_dup (i := 37) (pc' := 66) rfl rfl rfl ?_
                    refine m_getf (i := 38) (pc' := 69) rfl rfl flX12_254 (sh76 G) rfl rfl ?_
                    refine x_iconst (i := 39) (pc' := 70) rfl rfl ?_
                    refine x_iadd (i := 40) (pc' := 71) rfl rfl ?_
                    refine m_putf (kz := 8) (i := 41) (pc' := 74) rfl rfl flX12_254 (sh76 G) (fun _ => rfl) rfl (Nat.le_of_ble_eq_true rfl) rfl rfl ?_
                    show BW G 2 mX12_readsOrder Q 74 _ _ (adv x)
                    refine x_aload_n (i := 42) (pc' := 75) rfl rfl rfl rfl ?_
                    refine m_callV (i := 43) (pc' := 78) (av := []) (rest := []) rfl rfl (by decide) lX12_270 (sh76 G) rfl rfl rfl rfl rfl (Nat.le_of_ble_eq_true rfl) (Nat.le_refl _) (Nat.le_refl _) (s_X12_isFigure (by assumption) ?_)
                    dsimp only [psh]
                    rw [if_neg hf2]
                    refine x_ifeq (i := 44) (pc' := 81) (tgt := 113) rfl rfl (by decide) ⟨by omega, by omega⟩ (fun c7 => ?_) (fun c7 => ?_)
                    · first | (exfalso; omega; done) | skip
                      all_goals (
                        refine x_aload_n (i := 65) (pc' := 114) rfl rfl rfl rfl ?_
                        refine m_getf (i := 66) (pc' := 117) rfl rfl flX12_31 (sh76 G) rfl rfl ?_
                        refine x_bipush (i := 67) (pc' := 119) rfl rfl (by decide) ?_
                        refine x_aload_n (i := 68) (pc' := 120) rfl rfl rfl rfl ?_
                        refine m_getf (i := 69) (pc' := 123) rfl rfl flX12_274 (sh76 G) rfl rfl ?_
                        rw [adv_o]
                        refine x_imul (i := 70) (pc' := 124) rfl rfl ?_
                        refine x_iload_n (i := 71) (pc' := 125) rfl rfl rfl rfl ?_
                        refine x_iadd (i := 72) (pc' := 126) rfl rfl ?_
                        refine x_iload_n (i := 73) (pc' := 127) rfl rfl rfl rfl ?_
                        refine m_iast (i := 74) (pc' := 128) rfl rfl (sh84 G) (by decide) ⟨by omega, by omega⟩ ?_
                        refine x_iinc (L' := [some _, some _, some _, some _]) (i := 75) (pc' := 131) rfl rfl rfl rfl (by decide) rfl ?_
                        rw [← hrn]
                        refine x_aload_n (i := 76) (pc' := 132) rfl rfl rfl rfl ?_
                        refine m_callV (i := 77) (pc' := 135) (av := []) (rest := []) rfl rfl (by decide) lX12_267 (sh76 G) rfl rfl rfl rfl rfl (Nat.le_of_ble_eq_true rfl) (Nat.le_refl _) (Nat.le_refl _) (s_X12_blanks (by assumption) ?_)
                        dsimp only [psh]
                        refine x_goto (i := 78) (pc' := 31) rfl (by decide) ?_
                        exact ih (i + 1) _ (some _) (by omega) (by omega) hr1.sk (by rw [blk_o]; omega) hQ
                        skip)
                    · first | (exfalso; omega; done) | skip
                      all_goals (
                        refine x_bipush (i := 45) (pc' := 83) rfl rfl (by decide) ?_
                        refine x_iload_n (i := 46) (pc' := 84) rfl rfl rfl rfl ?_
                        refine x_imul (i := 47) (pc' := 85) rfl rfl ?_
                        refine x_aload_n (i := 48) (pc' := 86) rfl rfl rfl rfl ?_
                        refine m_callV (i := 49) (pc' := 89) (av := []) (rest := [_]) rfl rfl (by decide) lX12_257 (sh76 G) rfl rfl rfl rfl rfl (Nat.le_of_ble_eq_true rfl) (Nat.le_refl _) (Nat.le_refl _) (s_X12_byteHere (by assumption) ?_)
                        dsimp only [psh]
                        refine x_iadd (i := 50) (pc' := 90) rfl rfl ?_
                        refine x_bipush (i := 51) (pc' := 92) rfl rfl (by decide) ?_
                        refine x_isub (i := 52) (pc' := 93) rfl rfl ?_
                        refine x_istore_n (L' := [some _, some _, some _, some _]) (i := 53) (pc' := 94) rfl rfl rfl rfl (by decide) rfl ?_
                        refine x_aload_n (i := 54) (pc' := 95) rfl rfl rfl rfl ?_
                        refine x_dup (i := 55) (pc' := 96) rfl rfl rfl ?_
                        refine m_getf (i := 56) (pc' := 99) rfl rfl flX12_254 (sh76 G) rfl rfl ?_
                        refine x_iconst (i := 57) (pc' := 100) rfl rfl ?_
                        refine x_iadd (i := 58) (pc' := 101) rfl rfl ?_
                        refine m_putf (kz := 8) (i := 59) (pc' := 104) rfl rfl flX12_254 (sh76 G) (fun _ => rfl) rfl (Nat.le_of_ble_eq_true rfl) rfl rfl ?_
                        refine x_aload_n (i := 60) (pc' := 105) rfl rfl rfl rfl ?_
                        refine m_callV (i := 61) (pc' := 108) (av := []) (rest := []) rfl rfl (by decide) lX12_270 (sh76 G) rfl rfl rfl rfl rfl (Nat.le_of_ble_eq_true rfl) (Nat.le_refl _) (Nat.le_refl _) (s_X12_isFigure (by assumption) ?_)
                        dsimp only [psh]
                        refine x_ifeq (i := 62) (pc' := 111) (tgt := 113) rfl rfl (by decide) ⟨by omega, by omega⟩ (fun c8 => ?_) (fun c8 => ?_)
                        · first | (exfalso; omega; done) | skip
                          all_goals (
                            refine x_aload_n (i := 65) (pc' := 114) rfl rfl rfl rfl ?_
                            refine m_getf (i := 66) (pc' := 117) rfl rfl flX12_31 (sh76 G) rfl rfl ?_
                            refine x_bipush (i := 67) (pc' := 119) rfl rfl (by decide) ?_
                            refine x_aload_n (i := 68) (pc' := 120) rfl rfl rfl rfl ?_
                            refine m_getf (i := 69) (pc' := 123) rfl rfl flX12_274 (sh76 G) rfl rfl ?_
                            rw [adv_o]
                            refine x_imul (i := 70) (pc' := 124) rfl rfl ?_
                            refine x_iload_n (i := 71) (pc' := 125) rfl rfl rfl rfl ?_
                            refine x_iadd (i := 72) (pc' := 126) rfl rfl ?_
                            refine x_iload_n (i := 73) (pc' := 127) rfl rfl rfl rfl ?_
                            refine m_iast (i := 74) (pc' := 128) rfl rfl (sh84 G) (by decide) ⟨by omega, by omega⟩ ?_
                            refine x_iinc (L' := [some _, some _, some _, some _]) (i := 75) (pc' := 131) rfl rfl rfl rfl (by decide) rfl ?_
                            rw [← hrn]
                            refine x_aload_n (i := 76) (pc' := 132) rfl rfl rfl rfl ?_
                            refine m_callV (i := 77) (pc' := 135) (av := []) (rest := []) rfl rfl (by decide) lX12_267 (sh76 G) rfl rfl rfl rfl rfl (Nat.le_of_ble_eq_true rfl) (Nat.le_refl _) (Nat.le_refl _) (s_X12_blanks (by assumption) ?_)
                            dsimp only [psh]
                            refine x_goto (i := 78) (pc' := 31) rfl (by decide) ?_
                            exact ih (i + 1) _ (some _) (by omega) (by omega) hr1.sk (by rw [blk_o]; omega) hQ
                            skip)
                        · first | (exfalso; omega; done) | skip
                          all_goals (
                            refine x_iconst (i := 63) (pc' := 112) rfl rfl ?_
                            exact m_zreturn (i := 64) rfl rfl (by omega) (hQ)
                            skip)
                        skip)
                    skip)
                skip)
            skip)
    · rw [if_neg hf] at hQ
      refine x_aload_n (i := 19) (pc' := 32) rfl rfl rfl rfl ?_
      refine m_callV (i := 20) (pc' := 35) (av := []) (rest := []) rfl rfl (by decide) lX12_270 (sh76 G) rfl rfl rfl rfl rfl (Nat.le_of_ble_eq_true rfl) (Nat.le_refl _) (Nat.le_refl _) (s_X12_isFigure (by assumption) ?_)
      dsimp only [psh]
      rw [if_neg hf]
      refine x_ifeq (i := 21) (pc' := 38) (tgt := 138) rfl rfl (by decide) ⟨by omega, by omega⟩ (fun c1 => ?_) (fun c1 => ?_)
      · first | (exfalso; omega; done) | skip
        all_goals (
          exact ro_tail hx ho hc (by omega) hQ
          skip)
      · first | (exfalso; omega; done) | skip
        all_goals (
          refine x_iload_n (i := 22) (pc' := 39) rfl rfl rfl rfl ?_
          refine x_iload_n (i := 23) (pc' := 40) rfl rfl rfl rfl ?_
          refine x_bipush (i := 24) (pc' := 42) rfl rfl (by decide) ?_
          refine x_icmpne (i := 25) (pc' := 45) (tgt := 49) rfl rfl (by decide) ⟨by omega, by omega⟩ ⟨by omega, by omega⟩ (fun c2 => ?_) (fun c2 => ?_)
          · first | (exfalso; omega; done) | skip
            all_goals (
              refine x_iload_n (i := 28) (pc' := 50) rfl rfl rfl rfl ?_
              refine m_callS (i := 29) (pc' := 53) (av := [_]) (rest := [_]) rfl rfl (by decide) lX12_264 rfl rfl (Nat.le_of_ble_eq_true rfl) (Nat.le_refl _) (Nat.le_refl _) (s_X12_least hc ?_)
              dsimp only [psh]
              refine x_icmpge (i := 30) (pc' := 56) (tgt := 138) rfl rfl (by decide) ⟨by omega, by omega⟩ ⟨by omega, by omega⟩ (fun c3 => ?_) (fun c3 => ?_)
              · first | (exfalso; omega; done) | skip
                all_goals (
                  exact ro_tail hx ho hc (by omega) hQ
                  skip)
              · first | (exfalso; omega; done) | skip
                all_goals (
                  refine x_aload_n (i := 31) (pc' := 57) rfl rfl rfl rfl ?_
                  refine m_callV (i := 32) (pc' := 60) (av := []) (rest := []) rfl rfl (by decide) lX12_257 (sh76 G) rfl rfl rfl rfl rfl (Nat.le_of_ble_eq_true rfl) (Nat.le_refl _) (Nat.le_refl _) (s_X12_byteHere (by assumption) ?_)
                  dsimp only [psh]
                  refine x_bipush (i := 33) (pc' := 62) rfl rfl (by decide) ?_
                  refine x_isub (i := 34) (pc' := 63) rfl rfl ?_
                  refine x_istore_n (L' := [some _, some _, some _, some _]) (i := 35) (pc' := 64) rfl rfl rfl rfl (by decide) rfl ?_
                  refine x_aload_n (i := 36) (pc' := 65) rfl rfl rfl rfl ?_
                  refine x_dup (i := 37) (pc' := 66) rfl rfl rfl ?_
                  refine m_getf (i := 38) (pc' := 69) rfl rfl flX12_254 (sh76 G) rfl rfl ?_
                  refine x_iconst (i := 39) (pc' := 70) rfl rfl ?_
                  refine x_iadd (i := 40) (pc' := 71) rfl rfl ?_
                  refine m_putf (kz := 8) (i := 41) (pc' := 74) rfl rfl flX12_254 (sh76 G) (fun _ => rfl) rfl (Nat.le_of_ble_eq_true rfl) rfl rfl ?_
                  refine x_aload_n (i := 42) (pc' := 75) rfl rfl rfl rfl ?_
                  refine m_callV (i := 43) (pc' := 78) (av := []) (rest := []) rfl rfl (by decide) lX12_270 (sh76 G) rfl rfl rfl rfl rfl (Nat.le_of_ble_eq_true rfl) (Nat.le_refl _) (Nat.le_refl _) (s_X12_isFigure (by assumption) ?_)
                  dsimp only [psh]
                  refine x_ifeq (i := 44) (pc' := 81) (tgt := 113) rfl rfl (by decide) ⟨by omega, by omega⟩ (fun c4 => ?_) (fun c4 => ?_)
                  · first | (exfalso; omega; done) | skip
                    all_goals (
                      refine x_aload_n (i := 65) (pc' := 114) rfl rfl rfl rfl ?_
                      refine m_getf (i := 66) (pc' := 117) rfl rfl flX12_31 (sh76 G) rfl rfl ?_
                      refine x_bipush (i := 67) (pc' := 119) rfl rfl (by decide) ?_
                      refine x_aload_n (i := 68) (pc' := 120) rfl rfl rfl rfl ?_
                      refine m_getf (i := 69) (pc' := 123) rfl rfl flX12_274 (sh76 G) rfl rfl ?_
                      rw [adv_o]
                      refine x_imul (i := 70) (pc' := 124) rfl rfl ?_
                      refine x_iload_n (i := 71) (pc' := 125) rfl rfl rfl rfl ?_
                      refine x_iadd (i := 72) (pc' := 126) rfl rfl ?_
                      refine x_iload_n (i := 73) (pc' := 127) rfl rfl rfl rfl ?_
                      refine m_iast (i := 74) (pc' := 128) rfl rfl (sh84 G) (by decide) ⟨by omega, by omega⟩ ?_
                      refine x_iinc (L' := [some _, some _, some _, some _]) (i := 75) (pc' := 131) rfl rfl rfl rfl (by decide) rfl ?_
                      rw [← hrn]
                      refine x_aload_n (i := 76) (pc' := 132) rfl rfl rfl rfl ?_
                      refine m_callV (i := 77) (pc' := 135) (av := []) (rest := []) rfl rfl (by decide) lX12_267 (sh76 G) rfl rfl rfl rfl rfl (Nat.le_of_ble_eq_true rfl) (Nat.le_refl _) (Nat.le_refl _) (s_X12_blanks (by assumption) ?_)
                      dsimp only [psh]
                      refine x_goto (i := 78) (pc' := 31) rfl (by decide) ?_
                      exact ih (i + 1) _ (some _) (by omega) (by omega) hr1.sk (by rw [blk_o]; omega) hQ
                      skip)
                  · first | (exfalso; omega; done) | skip
                    all_goals (
                      refine x_bipush (i := 45) (pc' := 83) rfl rfl (by decide) ?_
                      refine x_iload_n (i := 46) (pc' := 84) rfl rfl rfl rfl ?_
                      refine x_imul (i := 47) (pc' := 85) rfl rfl ?_
                      refine x_aload_n (i := 48) (pc' := 86) rfl rfl rfl rfl ?_
                      refine m_callV (i := 49) (pc' := 89) (av := []) (rest := [_]) rfl rfl (by decide) lX12_257 (sh76 G) rfl rfl rfl rfl rfl (Nat.le_of_ble_eq_true rfl) (Nat.le_refl _) (Nat.le_refl _) (s_X12_byteHere (by assumption) ?_)
                      dsimp only [psh]
                      refine x_iadd (i := 50) (pc' := 90) rfl rfl ?_
                      refine x_bipush (i := 51) (pc' := 92) rfl rfl (by decide) ?_
                      refine x_isub (i := 52) (pc' := 93) rfl rfl ?_
                      refine x_istore_n (L' := [some _, some _, some _, some _]) (i := 53) (pc' := 94) rfl rfl rfl rfl (by decide) rfl ?_
                      refine x_aload_n (i := 54) (pc' := 95) rfl rfl rfl rfl ?_
                      refine x_dup (i := 55) (pc' := 96) rfl rfl rfl ?_
                      refine m_getf (i := 56) (pc' := 99) rfl rfl flX12_254 (sh76 G) rfl rfl ?_
                      refine x_iconst (i := 57) (pc' := 100) rfl rfl ?_
                      refine x_iadd (i := 58) (pc' := 101) rfl rfl ?_
                      refine m_putf (kz := 8) (i := 59) (pc' := 104) rfl rfl flX12_254 (sh76 G) (fun _ => rfl) rfl (Nat.le_of_ble_eq_true rfl) rfl rfl ?_
                      refine x_aload_n (i := 60) (pc' := 105) rfl rfl rfl rfl ?_
                      refine m_callV (i := 61) (pc' := 108) (av := []) (rest := []) rfl rfl (by decide) lX12_270 (sh76 G) rfl rfl rfl rfl rfl (Nat.le_of_ble_eq_true rfl) (Nat.le_refl _) (Nat.le_refl _) (s_X12_isFigure (by assumption) ?_)
                      dsimp only [psh]
                      refine x_ifeq (i := 62) (pc' := 111) (tgt := 113) rfl rfl (by decide) ⟨by omega, by omega⟩ (fun c5 => ?_) (fun c5 => ?_)
                      · first | (exfalso; omega; done) | skip
                        all_goals (
                          refine x_aload_n (i := 65) (pc' := 114) rfl rfl rfl rfl ?_
                          refine m_getf (i := 66) (pc' := 117) rfl rfl flX12_31 (sh76 G) rfl rfl ?_
                          refine x_bipush (i := 67) (pc' := 119) rfl rfl (by decide) ?_
                          refine x_aload_n (i := 68) (pc' := 120) rfl rfl rfl rfl ?_
                          refine m_getf (i := 69) (pc' := 123) rfl rfl flX12_274 (sh76 G) rfl rfl ?_
                          rw [adv_o]
                          refine x_imul (i := 70) (pc' := 124) rfl rfl ?_
                          refine x_iload_n (i := 71) (pc' := 125) rfl rfl rfl rfl ?_
                          refine x_iadd (i := 72) (pc' := 126) rfl rfl ?_
                          refine x_iload_n (i := 73) (pc' := 127) rfl rfl rfl rfl ?_
                          refine m_iast (i := 74) (pc' := 128) rfl rfl (sh84 G) (by decide) ⟨by omega, by omega⟩ ?_
                          refine x_iinc (L' := [some _, some _, some _, some _]) (i := 75) (pc' := 131) rfl rfl rfl rfl (by decide) rfl ?_
                          rw [← hrn]
                          refine x_aload_n (i := 76) (pc' := 132) rfl rfl rfl rfl ?_
                          refine m_callV (i := 77) (pc' := 135) (av := []) (rest := []) rfl rfl (by decide) lX12_267 (sh76 G) rfl rfl rfl rfl rfl (Nat.le_of_ble_eq_true rfl) (Nat.le_refl _) (Nat.le_refl _) (s_X12_blanks (by assumption) ?_)
                          dsimp only [psh]
                          refine x_goto (i := 78) (pc' := 31) rfl (by decide) ?_
                          exact ih (i + 1) _ (some _) (by omega) (by omega) hr1.sk (by rw [blk_o]; omega) hQ
                          skip)
                      · first | (exfalso; omega; done) | skip
                        all_goals (
                          refine x_iconst (i := 63) (pc' := 112) rfl rfl ?_
                          exact m_zreturn (i := 64) rfl rfl (by omega) (hQ)
                          skip)
                      skip)
                  skip)
              skip)
          · first | (exfalso; omega; done) | skip
            all_goals (
              refine x_iconst (i := 26) (pc' := 46) rfl rfl ?_
              refine x_goto (i := 27) (pc' := 53) rfl (by decide) ?_
              refine x_icmpge (i := 30) (pc' := 56) (tgt := 138) rfl rfl (by decide) ⟨by omega, by omega⟩ ⟨by omega, by omega⟩ (fun c6 => ?_) (fun c6 => ?_)
              · first | (exfalso; omega; done) | skip
                all_goals (
                  exact ro_tail hx ho hc (by omega) hQ
                  skip)
              · first | (exfalso; omega; done) | skip
                all_goals (
                  refine x_aload_n (i := 31) (pc' := 57) rfl rfl rfl rfl ?_
                  refine m_callV (i := 32) (pc' := 60) (av := []) (rest := []) rfl rfl (by decide) lX12_257 (sh76 G) rfl rfl rfl rfl rfl (Nat.le_of_ble_eq_true rfl) (Nat.le_refl _) (Nat.le_refl _) (s_X12_byteHere (by assumption) ?_)
                  dsimp only [psh]
                  refine x_bipush (i := 33) (pc' := 62) rfl rfl (by decide) ?_
                  refine x_isub (i := 34) (pc' := 63) rfl rfl ?_
                  refine x_istore_n (L' := [some _, some _, some _, some _]) (i := 35) (pc' := 64) rfl rfl rfl rfl (by decide) rfl ?_
                  refine x_aload_n (i := 36) (pc' := 65) rfl rfl rfl rfl ?_
                  refine x_dup (i := 37) (pc' := 66) rfl rfl rfl ?_
                  refine m_getf (i := 38) (pc' := 69) rfl rfl flX12_254 (sh76 G) rfl rfl ?_
                  refine x_iconst (i := 39) (pc' := 70) rfl rfl ?_
                  refine x_iadd (i := 40) (pc' := 71) rfl rfl ?_
                  refine m_putf (kz := 8) (i := 41) (pc' := 74) rfl rfl flX12_254 (sh76 G) (fun _ => rfl) rfl (Nat.le_of_ble_eq_true rfl) rfl rfl ?_
                  refine x_aload_n (i := 42) (pc' := 75) rfl rfl rfl rfl ?_
                  refine m_callV (i := 43) (pc' := 78) (av := []) (rest := []) rfl rfl (by decide) lX12_270 (sh76 G) rfl rfl rfl rfl rfl (Nat.le_of_ble_eq_true rfl) (Nat.le_refl _) (Nat.le_refl _) (s_X12_isFigure (by assumption) ?_)
                  dsimp only [psh]
                  refine x_ifeq (i := 44) (pc' := 81) (tgt := 113) rfl rfl (by decide) ⟨by omega, by omega⟩ (fun c7 => ?_) (fun c7 => ?_)
                  · first | (exfalso; omega; done) | skip
                    all_goals (
                      refine x_aload_n (i := 65) (pc' := 114) rfl rfl rfl rfl ?_
                      refine m_getf (i := 66) (pc' := 117) rfl rfl flX12_31 (sh76 G) rfl rfl ?_
                      refine x_bipush (i := 67) (pc' := 119) rfl rfl (by decide) ?_
                      refine x_aload_n (i := 68) (pc' := 120) rfl rfl rfl rfl ?_
                      refine m_getf (i := 69) (pc' := 123) rfl rfl flX12_274 (sh76 G) rfl rfl ?_
                      rw [adv_o]
                      refine x_imul (i := 70) (pc' := 124) rfl rfl ?_
                      refine x_iload_n (i := 71) (pc' := 125) rfl rfl rfl rfl ?_
                      refine x_iadd (i := 72) (pc' := 126) rfl rfl ?_
                      refine x_iload_n (i := 73) (pc' := 127) rfl rfl rfl rfl ?_
                      refine m_iast (i := 74) (pc' := 128) rfl rfl (sh84 G) (by decide) ⟨by omega, by omega⟩ ?_
                      refine x_iinc (L' := [some _, some _, some _, some _]) (i := 75) (pc' := 131) rfl rfl rfl rfl (by decide) rfl ?_
                      rw [← hrn]
                      refine x_aload_n (i := 76) (pc' := 132) rfl rfl rfl rfl ?_
                      refine m_callV (i := 77) (pc' := 135) (av := []) (rest := []) rfl rfl (by decide) lX12_267 (sh76 G) rfl rfl rfl rfl rfl (Nat.le_of_ble_eq_true rfl) (Nat.le_refl _) (Nat.le_refl _) (s_X12_blanks (by assumption) ?_)
                      dsimp only [psh]
                      refine x_goto (i := 78) (pc' := 31) rfl (by decide) ?_
                      exact ih (i + 1) _ (some _) (by omega) (by omega) hr1.sk (by rw [blk_o]; omega) hQ
                      skip)
                  · first | (exfalso; omega; done) | skip
                    all_goals (
                      refine x_bipush (i := 45) (pc' := 83) rfl rfl (by decide) ?_
                      refine x_iload_n (i := 46) (pc' := 84) rfl rfl rfl rfl ?_
                      refine x_imul (i := 47) (pc' := 85) rfl rfl ?_
                      refine x_aload_n (i := 48) (pc' := 86) rfl rfl rfl rfl ?_
                      refine m_callV (i := 49) (pc' := 89) (av := []) (rest := [_]) rfl rfl (by decide) lX12_257 (sh76 G) rfl rfl rfl rfl rfl (Nat.le_of_ble_eq_true rfl) (Nat.le_refl _) (Nat.le_refl _) (s_X12_byteHere (by assumption) ?_)
                      dsimp only [psh]
                      refine x_iadd (i := 50) (pc' := 90) rfl rfl ?_
                      refine x_bipush (i := 51) (pc' := 92) rfl rfl (by decide) ?_
                      refine x_isub (i := 52) (pc' := 93) rfl rfl ?_
                      refine x_istore_n (L' := [some _, some _, some _, some _]) (i := 53) (pc' := 94) rfl rfl rfl rfl (by decide) rfl ?_
                      refine x_aload_n (i := 54) (pc' := 95) rfl rfl rfl rfl ?_
                      refine x_dup (i := 55) (pc' := 96) rfl rfl rfl ?_
                      refine m_getf (i := 56) (pc' := 99) rfl rfl flX12_254 (sh76 G) rfl rfl ?_
                      refine x_iconst (i := 57) (pc' := 100) rfl rfl ?_
                      refine x_iadd (i := 58) (pc' := 101) rfl rfl ?_
                      refine m_putf (kz := 8) (i := 59) (pc' := 104) rfl rfl flX12_254 (sh76 G) (fun _ => rfl) rfl (Nat.le_of_ble_eq_true rfl) rfl rfl ?_
                      refine x_aload_n (i := 60) (pc' := 105) rfl rfl rfl rfl ?_
                      refine m_callV (i := 61) (pc' := 108) (av := []) (rest := []) rfl rfl (by decide) lX12_270 (sh76 G) rfl rfl rfl rfl rfl (Nat.le_of_ble_eq_true rfl) (Nat.le_refl _) (Nat.le_refl _) (s_X12_isFigure (by assumption) ?_)
                      dsimp only [psh]
                      refine x_ifeq (i := 62) (pc' := 111) (tgt := 113) rfl rfl (by decide) ⟨by omega, by omega⟩ (fun c8 => ?_) (fun c8 => ?_)
                      · first | (exfalso; omega; done) | skip
                        all_goals (
                          refine x_aload_n (i := 65) (pc' := 114) rfl rfl rfl rfl ?_
                          refine m_getf (i := 66) (pc' := 117) rfl rfl flX12_31 (sh76 G) rfl rfl ?_
                          refine x_bipush (i := 67) (pc' := 119) rfl rfl (by decide) ?_
                          refine x_aload_n (i := 68) (pc' := 120) rfl rfl rfl rfl ?_
                          refine m_getf (i := 69) (pc' := 123) rfl rfl flX12_274 (sh76 G) rfl rfl ?_
                          rw [adv_o]
                          refine x_imul (i := 70) (pc' := 124) rfl rfl ?_
                          refine x_iload_n (i := 71) (pc' := 125) rfl rfl rfl rfl ?_
                          refine x_iadd (i := 72) (pc' := 126) rfl rfl ?_
                          refine x_iload_n (i := 73) (pc' := 127) rfl rfl rfl rfl ?_
                          refine m_iast (i := 74) (pc' := 128) rfl rfl (sh84 G) (by decide) ⟨by omega, by omega⟩ ?_
                          refine x_iinc (L' := [some _, some _, some _, some _]) (i := 75) (pc' := 131) rfl rfl rfl rfl (by decide) rfl ?_
                          rw [← hrn]
                          refine x_aload_n (i := 76) (pc' := 132) rfl rfl rfl rfl ?_
                          refine m_callV (i := 77) (pc' := 135) (av := []) (rest := []) rfl rfl (by decide) lX12_267 (sh76 G) rfl rfl rfl rfl rfl (Nat.le_of_ble_eq_true rfl) (Nat.le_refl _) (Nat.le_refl _) (s_X12_blanks (by assumption) ?_)
                          dsimp only [psh]
                          refine x_goto (i := 78) (pc' := 31) rfl (by decide) ?_
                          exact ih (i + 1) _ (some _) (by omega) (by omega) hr1.sk (by rw [blk_o]; omega) hQ
                          skip)
                      · first | (exfalso; omega; done) | skip
                        all_goals (
                          refine x_iconst (i := 63) (pc' := 112) rfl rfl ?_
                          exact m_zreturn (i := 64) rfl rfl (by omega) (hQ)
                          skip)
                      skip)
                  skip)
              skip)
          skip)
theorem s_X12_readsOrder {G : GG} {m : Mem} {Q : Option Value → Mem → Prop} (h : TM m) (ho : 0 ≤ m 76 9 ∧ m 76 9 < 60) (hQ : Q (some (.int (J ((ro m).1)))) ((ro m).2)) : CM G 2 mX12_readsOrder [.ref (G.2.2.2 76)] m Q := by
  refine CM.of dkX12_readsOrder (Or.inl rfl) [some _, none, none, none] rfl (Nat.le_of_ble_eq_true rfl) ?_
  have hml := mo_lst (bh m)
  have hmo := mo_le (bh m)
  have hbr := bh_rg h.1
  unfold ro at hQ
  by_cases hc : lst (bh m) = -1
  · rw [if_pos hc] at hQ
    refine x_aload_n (i := 0) (pc' := 1) rfl rfl rfl rfl ?_
    refine m_callV (i := 1) (pc' := 4) (av := []) (rest := []) rfl rfl (by decide) lX12_257 (sh76 G) rfl rfl rfl rfl rfl (Nat.le_of_ble_eq_true rfl) (Nat.le_refl _) (Nat.le_refl _) (s_X12_byteHere h ?_)
    dsimp only [psh]
    refine x_istore_n (L' := [some _, some _, none, none]) (i := 2) (pc' := 5) rfl rfl rfl rfl (by decide) rfl ?_
    refine x_iload_n (i := 3) (pc' := 6) rfl rfl rfl rfl ?_
    refine m_callS (i := 4) (pc' := 9) (av := [_]) (rest := []) rfl rfl (by decide) lX12_264 rfl rfl (Nat.le_of_ble_eq_true rfl) (Nat.le_refl _) (Nat.le_refl _) (s_X12_least hbr ?_)
    dsimp only [psh]
    refine x_iconst (i := 5) (pc' := 10) rfl rfl ?_
    refine x_icmpne (i := 6) (pc' := 13) (tgt := 15) rfl rfl (by decide) ⟨by omega, by omega⟩ ⟨by omega, by omega⟩ (fun c1 => by exfalso; omega) (fun c1 => ?_)
    refine x_iconst (i := 7) (pc' := 14) rfl rfl ?_
    exact m_zreturn (i := 8) rfl rfl (by omega) (hQ)
  · rw [if_neg hc] at hQ
    have hb : ¬ bh m = -1 := fun hh => hc (by rw [hh]; decide)
    have t1 := h.adv hb
    refine x_aload_n (i := 0) (pc' := 1) rfl rfl rfl rfl ?_
    refine m_callV (i := 1) (pc' := 4) (av := []) (rest := []) rfl rfl (by decide) lX12_257 (sh76 G) rfl rfl rfl rfl rfl (Nat.le_of_ble_eq_true rfl) (Nat.le_refl _) (Nat.le_refl _) (s_X12_byteHere h ?_)
    dsimp only [psh]
    refine x_istore_n (L' := [some _, some _, none, none]) (i := 2) (pc' := 5) rfl rfl rfl rfl (by decide) rfl ?_
    refine x_iload_n (i := 3) (pc' := 6) rfl rfl rfl rfl ?_
    refine m_callS (i := 4) (pc' := 9) (av := [_]) (rest := []) rfl rfl (by decide) lX12_264 rfl rfl (Nat.le_of_ble_eq_true rfl) (Nat.le_refl _) (Nat.le_refl _) (s_X12_least hbr ?_)
    dsimp only [psh]
    refine x_iconst (i := 5) (pc' := 10) rfl rfl ?_
    refine x_icmpne (i := 6) (pc' := 13) (tgt := 15) rfl rfl (by decide) ⟨by omega, by omega⟩ ⟨by omega, by omega⟩ (fun c1 => ?_) (fun c1 => by exfalso; omega)
    refine x_aload_n (i := 9) (pc' := 16) rfl rfl rfl rfl ?_
    refine x_dup (i := 10) (pc' := 17) rfl rfl rfl ?_
    refine m_getf (i := 11) (pc' := 20) rfl rfl flX12_254 (sh76 G) rfl rfl ?_
    refine x_iconst (i := 12) (pc' := 21) rfl rfl ?_
    refine x_iadd (i := 13) (pc' := 22) rfl rfl ?_
    refine m_putf (kz := 8) (i := 14) (pc' := 25) rfl rfl flX12_254 (sh76 G) (fun _ => rfl) rfl (Nat.le_of_ble_eq_true rfl) rfl rfl ?_
    show BW G 2 mX12_readsOrder Q 25 _ _ (adv m)
    refine x_iconst (i := 15) (pc' := 26) rfl rfl ?_
    refine x_istore_n (L' := [some _, some _, some _, none]) (i := 16) (pc' := 27) rfl rfl rfl rfl (by decide) rfl ?_
    refine x_aload_n (i := 17) (pc' := 28) rfl rfl rfl rfl ?_
    refine m_callV (i := 18) (pc' := 31) (av := []) (rest := []) rfl rfl (by decide) lX12_267 (sh76 G) rfl rfl rfl rfl rfl (Nat.le_of_ble_eq_true rfl) (Nat.le_refl _) (Nat.le_refl _) (s_X12_blanks t1 ?_)
    dsimp only [psh]
    exact ro_loop hbr hc (mo (bh m)).toNat 0 (blk (adv m)) none (by omega) (by omega) t1.sk (by rw [blk_o, adv_o]; exact ho) hQ
def ra_ : Nat → Mem → Int × Mem
  | 0, x => (1, x)
  | k + 1, x => if x 76 8 < x 76 4 ∨ x 76 9 = 0 then (if (ro x).1 = 0 then (0, (ro x).2) else ra_ k (blk (ro x).2)) else (1, x)
theorem RO.sk {x : Mem} (h : RO x) : RO (blk x) := by
  have := blk_h h.1
  exact ⟨h.1.sk, by rw [blk_o]; exact h.2.1, by rw [blk_o]; have := h.2.2; omega⟩
theorem ra_loop {G : GG} {Q : Option Value → Mem → Prop} : ∀ (k : Nat) (x : Mem), x 76 9 + k = 60 → RO x → Q (some (.int (J (ra_ k x).1))) (ra_ k x).2 → BW G 3 mX12_readsAll Q 16 [some (.ref (G.2.2.2 76)), some (.int (J (1)))] [] x := by
  intro k
  induction k with
  | zero =>
    intro x h1 hx hQ
    unfold ra_ at hQ
    have hr := hx.1.1; have h2 := hx.1.2.1; have h3 := hx.1.2.2; have h4 := hx.2
    have r8 := hr 76 8; have r4 := hr 76 4; have r9 := hr 76 9
    refine x_iload_n (i := 10) (pc' := 17) rfl rfl rfl rfl ?_
    refine x_ifeq (i := 11) (pc' := 20) (tgt := 54) rfl rfl (by decide) ⟨by omega, by omega⟩ (fun c1 => ?_) (fun c1 => ?_)
    · first | (exfalso; omega; done) | skip
      all_goals (
        refine x_iload_n (i := 28) (pc' := 55) rfl rfl rfl rfl ?_
        exact m_zreturn (i := 29) rfl rfl (by omega) (hQ)
        skip)
    · first | (exfalso; omega; done) | skip
      all_goals (
        refine x_aload_n (i := 12) (pc' := 21) rfl rfl rfl rfl ?_
        refine m_getf (i := 13) (pc' := 24) rfl rfl flX12_254 (sh76 G) rfl rfl ?_
        refine x_aload_n (i := 14) (pc' := 25) rfl rfl rfl rfl ?_
        refine m_getf (i := 15) (pc' := 28) rfl rfl flX12_251 (sh76 G) rfl rfl ?_
        refine x_icmplt (i := 16) (pc' := 31) (tgt := 38) rfl rfl (by decide) ⟨by omega, by omega⟩ ⟨by omega, by omega⟩ (fun c2 => ?_) (fun c2 => ?_)
        · first | (exfalso; omega; done) | skip
          all_goals (
            exfalso; omega
            skip)
        · first | (exfalso; omega; done) | skip
          all_goals (
            refine x_aload_n (i := 17) (pc' := 32) rfl rfl rfl rfl ?_
            refine m_getf (i := 18) (pc' := 35) rfl rfl flX12_274 (sh76 G) rfl rfl ?_
            refine x_ifne (i := 19) (pc' := 38) (tgt := 54) rfl rfl (by decide) ⟨by omega, by omega⟩ (fun c3 => ?_) (fun c3 => ?_)
            · first | (exfalso; omega; done) | skip
              all_goals (
                refine x_iload_n (i := 28) (pc' := 55) rfl rfl rfl rfl ?_
                exact m_zreturn (i := 29) rfl rfl (by omega) (hQ)
                skip)
            · first | (exfalso; omega; done) | skip
              all_goals (
                exfalso; omega
                skip)
            skip)
        skip)
  | succ k ih =>
    intro x h1 hx hQ
    unfold ra_ at hQ
    have hr := hx.1.1; have h2 := hx.1.2.1; have h3 := hx.1.2.2; have h4 := hx.2
    have r8 := hr 76 8; have r4 := hr 76 4; have r9 := hr 76 9
    by_cases hcc : x 76 8 < x 76 4 ∨ x 76 9 = 0
    · rw [if_pos hcc] at hQ
      obtain ⟨o1, o2, o3⟩ := ro_I hx (by omega)
      by_cases hz : (ro x).1 = 0
      · rw [if_pos hz] at hQ
        refine x_iload_n (i := 10) (pc' := 17) rfl rfl rfl rfl ?_
        refine x_ifeq (i := 11) (pc' := 20) (tgt := 54) rfl rfl (by decide) ⟨by omega, by omega⟩ (fun c1 => ?_) (fun c1 => ?_)
        · first | (exfalso; omega; done) | skip
          all_goals (
            exfalso; omega
            skip)
        · first | (exfalso; omega; done) | skip
          all_goals (
            refine x_aload_n (i := 12) (pc' := 21) rfl rfl rfl rfl ?_
            refine m_getf (i := 13) (pc' := 24) rfl rfl flX12_254 (sh76 G) rfl rfl ?_
            refine x_aload_n (i := 14) (pc' := 25) rfl rfl rfl rfl ?_
            refine m_getf (i := 15) (pc' := 28) rfl rfl flX12_251 (sh76 G) rfl rfl ?_
            refine x_icmplt (i := 16) (pc' := 31) (tgt := 38) rfl rfl (by decide) ⟨by omega, by omega⟩ ⟨by omega, by omega⟩ (fun c2 => ?_) (fun c2 => ?_)
            · first | (exfalso; omega; done) | skip
              all_goals (
                refine x_aload_n (i := 20) (pc' := 39) rfl rfl rfl rfl ?_
                refine m_callV (i := 21) (pc' := 42) (av := []) (rest := []) rfl rfl (by decide) lX12_277 (sh76 G) rfl rfl rfl rfl rfl (Nat.le_of_ble_eq_true rfl) (Nat.le_refl _) (Nat.le_refl _) (s_X12_readsOrder hx.1 (by omega) ?_)
                dsimp only [psh]
                rw [hz]
                refine x_istore_n (L' := [some _, some _]) (i := 22) (pc' := 43) rfl rfl rfl rfl (by decide) rfl ?_
                refine x_iload_n (i := 23) (pc' := 44) rfl rfl rfl rfl ?_
                refine x_ifeq (i := 24) (pc' := 47) (tgt := 16) rfl rfl (by decide) ⟨by omega, by omega⟩ (fun c3 => ?_) (fun c3 => ?_)
                · first | (exfalso; omega; done) | skip
                  all_goals (
                    refine x_iload_n (i := 10) (pc' := 17) rfl rfl rfl rfl ?_
                    refine x_ifeq (i := 11) (pc' := 20) (tgt := 54) rfl rfl (by decide) ⟨by omega, by omega⟩ (fun c1 => ?_) (fun c1 => by exfalso; omega)
                    refine x_iload_n (i := 28) (pc' := 55) rfl rfl rfl rfl ?_
                    exact m_zreturn (i := 29) rfl rfl (by omega) (hQ)
                    skip)
                · first | (exfalso; omega; done) | skip
                  all_goals (
                    exfalso; omega
                    skip)
                skip)
            · first | (exfalso; omega; done) | skip
              all_goals (
                refine x_aload_n (i := 17) (pc' := 32) rfl rfl rfl rfl ?_
                refine m_getf (i := 18) (pc' := 35) rfl rfl flX12_274 (sh76 G) rfl rfl ?_
                refine x_ifne (i := 19) (pc' := 38) (tgt := 54) rfl rfl (by decide) ⟨by omega, by omega⟩ (fun c4 => ?_) (fun c4 => ?_)
                · first | (exfalso; omega; done) | skip
                  all_goals (
                    exfalso; omega
                    skip)
                · first | (exfalso; omega; done) | skip
                  all_goals (
                    refine x_aload_n (i := 20) (pc' := 39) rfl rfl rfl rfl ?_
                    refine m_callV (i := 21) (pc' := 42) (av := []) (rest := []) rfl rfl (by decide) lX12_277 (sh76 G) rfl rfl rfl rfl rfl (Nat.le_of_ble_eq_true rfl) (Nat.le_refl _) (Nat.le_refl _) (s_X12_readsOrder hx.1 (by omega) ?_)
                    dsimp only [psh]
                    rw [hz]
                    refine x_istore_n (L' := [some _, some _]) (i := 22) (pc' := 43) rfl rfl rfl rfl (by decide) rfl ?_
                    refine x_iload_n (i := 23) (pc' := 44) rfl rfl rfl rfl ?_
                    refine x_ifeq (i := 24) (pc' := 47) (tgt := 16) rfl rfl (by decide) ⟨by omega, by omega⟩ (fun c5 => ?_) (fun c5 => ?_)
                    · first | (exfalso; omega; done) | skip
                      all_goals (
                        refine x_iload_n (i := 10) (pc' := 17) rfl rfl rfl rfl ?_
                        refine x_ifeq (i := 11) (pc' := 20) (tgt := 54) rfl rfl (by decide) ⟨by omega, by omega⟩ (fun c1 => ?_) (fun c1 => by exfalso; omega)
                        refine x_iload_n (i := 28) (pc' := 55) rfl rfl rfl rfl ?_
                        exact m_zreturn (i := 29) rfl rfl (by omega) (hQ)
                        skip)
                    · first | (exfalso; omega; done) | skip
                      all_goals (
                        exfalso; omega
                        skip)
                    skip)
                skip)
            skip)
      · rw [if_neg hz] at hQ
        obtain ⟨o4, o5⟩ := o3 hz
        have o6 : (ro x).1 = 1 := (by omega)
        refine x_iload_n (i := 10) (pc' := 17) rfl rfl rfl rfl ?_
        refine x_ifeq (i := 11) (pc' := 20) (tgt := 54) rfl rfl (by decide) ⟨by omega, by omega⟩ (fun c1 => ?_) (fun c1 => ?_)
        · first | (exfalso; omega; done) | skip
          all_goals (
            exfalso; omega
            skip)
        · first | (exfalso; omega; done) | skip
          all_goals (
            refine x_aload_n (i := 12) (pc' := 21) rfl rfl rfl rfl ?_
            refine m_getf (i := 13) (pc' := 24) rfl rfl flX12_254 (sh76 G) rfl rfl ?_
            refine x_aload_n (i := 14) (pc' := 25) rfl rfl rfl rfl ?_
            refine m_getf (i := 15) (pc' := 28) rfl rfl flX12_251 (sh76 G) rfl rfl ?_
            refine x_icmplt (i := 16) (pc' := 31) (tgt := 38) rfl rfl (by decide) ⟨by omega, by omega⟩ ⟨by omega, by omega⟩ (fun c2 => ?_) (fun c2 => ?_)
            · first | (exfalso; omega; done) | skip
              all_goals (
                refine x_aload_n (i := 20) (pc' := 39) rfl rfl rfl rfl ?_
                refine m_callV (i := 21) (pc' := 42) (av := []) (rest := []) rfl rfl (by decide) lX12_277 (sh76 G) rfl rfl rfl rfl rfl (Nat.le_of_ble_eq_true rfl) (Nat.le_refl _) (Nat.le_refl _) (s_X12_readsOrder hx.1 (by omega) ?_)
                dsimp only [psh]
                rw [o6]
                refine x_istore_n (L' := [some _, some _]) (i := 22) (pc' := 43) rfl rfl rfl rfl (by decide) rfl ?_
                refine x_iload_n (i := 23) (pc' := 44) rfl rfl rfl rfl ?_
                refine x_ifeq (i := 24) (pc' := 47) (tgt := 16) rfl rfl (by decide) ⟨by omega, by omega⟩ (fun c3 => ?_) (fun c3 => ?_)
                · first | (exfalso; omega; done) | skip
                  all_goals (
                    first | exact ih _ (by rw [blk_o]; omega) o4.sk hQ | (exfalso; omega)
                    skip)
                · first | (exfalso; omega; done) | skip
                  all_goals (
                    refine x_aload_n (i := 25) (pc' := 48) rfl rfl rfl rfl ?_
                    refine m_callV (i := 26) (pc' := 51) (av := []) (rest := []) rfl rfl (by decide) lX12_267 (sh76 G) rfl rfl rfl rfl rfl (Nat.le_of_ble_eq_true rfl) (Nat.le_refl _) (Nat.le_refl _) (s_X12_blanks o4.1 ?_)
                    dsimp only [psh]
                    refine x_goto (i := 27) (pc' := 16) rfl (by decide) ?_
                    first | exact ih _ (by rw [blk_o]; omega) o4.sk hQ | (exfalso; omega)
                    skip)
                skip)
            · first | (exfalso; omega; done) | skip
              all_goals (
                refine x_aload_n (i := 17) (pc' := 32) rfl rfl rfl rfl ?_
                refine m_getf (i := 18) (pc' := 35) rfl rfl flX12_274 (sh76 G) rfl rfl ?_
                refine x_ifne (i := 19) (pc' := 38) (tgt := 54) rfl rfl (by decide) ⟨by omega, by omega⟩ (fun c4 => ?_) (fun c4 => ?_)
                · first | (exfalso; omega; done) | skip
                  all_goals (
                    exfalso; omega
                    skip)
                · first | (exfalso; omega; done) | skip
                  all_goals (
                    refine x_aload_n (i := 20) (pc' := 39) rfl rfl rfl rfl ?_
                    refine m_callV (i := 21) (pc' := 42) (av := []) (rest := []) rfl rfl (by decide) lX12_277 (sh76 G) rfl rfl rfl rfl rfl (Nat.le_of_ble_eq_true rfl) (Nat.le_refl _) (Nat.le_refl _) (s_X12_readsOrder hx.1 (by omega) ?_)
                    dsimp only [psh]
                    rw [o6]
                    refine x_istore_n (L' := [some _, some _]) (i := 22) (pc' := 43) rfl rfl rfl rfl (by decide) rfl ?_
                    refine x_iload_n (i := 23) (pc' := 44) rfl rfl rfl rfl ?_
                    refine x_ifeq (i := 24) (pc' := 47) (tgt := 16) rfl rfl (by decide) ⟨by omega, by omega⟩ (fun c5 => ?_) (fun c5 => ?_)
                    · first | (exfalso; omega; done) | skip
                      all_goals (
                        first | exact ih _ (by rw [blk_o]; omega) o4.sk hQ | (exfalso; omega)
                        skip)
                    · first | (exfalso; omega; done) | skip
                      all_goals (
                        refine x_aload_n (i := 25) (pc' := 48) rfl rfl rfl rfl ?_
                        refine m_callV (i := 26) (pc' := 51) (av := []) (rest := []) rfl rfl (by decide) lX12_267 (sh76 G) rfl rfl rfl rfl rfl (Nat.le_of_ble_eq_true rfl) (Nat.le_refl _) (Nat.le_refl _) (s_X12_blanks o4.1 ?_)
                        dsimp only [psh]
                        refine x_goto (i := 27) (pc' := 16) rfl (by decide) ?_
                        first | exact ih _ (by rw [blk_o]; omega) o4.sk hQ | (exfalso; omega)
                        skip)
                    skip)
                skip)
            skip)
    · rw [if_neg hcc] at hQ
      refine x_iload_n (i := 10) (pc' := 17) rfl rfl rfl rfl ?_
      refine x_ifeq (i := 11) (pc' := 20) (tgt := 54) rfl rfl (by decide) ⟨by omega, by omega⟩ (fun c1 => ?_) (fun c1 => ?_)
      · first | (exfalso; omega; done) | skip
        all_goals (
          refine x_iload_n (i := 28) (pc' := 55) rfl rfl rfl rfl ?_
          exact m_zreturn (i := 29) rfl rfl (by omega) (hQ)
          skip)
      · first | (exfalso; omega; done) | skip
        all_goals (
          refine x_aload_n (i := 12) (pc' := 21) rfl rfl rfl rfl ?_
          refine m_getf (i := 13) (pc' := 24) rfl rfl flX12_254 (sh76 G) rfl rfl ?_
          refine x_aload_n (i := 14) (pc' := 25) rfl rfl rfl rfl ?_
          refine m_getf (i := 15) (pc' := 28) rfl rfl flX12_251 (sh76 G) rfl rfl ?_
          refine x_icmplt (i := 16) (pc' := 31) (tgt := 38) rfl rfl (by decide) ⟨by omega, by omega⟩ ⟨by omega, by omega⟩ (fun c2 => ?_) (fun c2 => ?_)
          · first | (exfalso; omega; done) | skip
            all_goals (
              exfalso; omega
              skip)
          · first | (exfalso; omega; done) | skip
            all_goals (
              refine x_aload_n (i := 17) (pc' := 32) rfl rfl rfl rfl ?_
              refine m_getf (i := 18) (pc' := 35) rfl rfl flX12_274 (sh76 G) rfl rfl ?_
              refine x_ifne (i := 19) (pc' := 38) (tgt := 54) rfl rfl (by decide) ⟨by omega, by omega⟩ (fun c3 => ?_) (fun c3 => ?_)
              · first | (exfalso; omega; done) | skip
                all_goals (
                  refine x_iload_n (i := 28) (pc' := 55) rfl rfl rfl rfl ?_
                  exact m_zreturn (i := 29) rfl rfl (by omega) (hQ)
                  skip)
              · first | (exfalso; omega; done) | skip
                all_goals (
                  exfalso; omega
                  skip)
              skip)
          skip)
def rb0 (m : Mem) : Mem := blk (stm (stm m 76 8 0) 76 9 0)
def rdA (m : Mem) : Int × Mem := ra_ 60 (rb0 m)
theorem rb0_I {m : Mem} (hM : MR m) (hl : 0 ≤ m 76 4 ∧ m 76 4 ≤ 120) : TM (stm (stm m 76 8 0) 76 9 0) ∧ RO (rb0 m) ∧ rb0 m 76 9 = 0 := by
  have e4 : stm (stm m 76 8 0) 76 9 0 76 4 = m 76 4 := by rw [stm_ix _ _ _ (by decide), stm_ix _ _ _ (by decide)]
  have e8 : stm (stm m 76 8 0) 76 9 0 76 8 = 0 := by rw [stm_ix _ _ _ (by decide), stm_eq]
  have e9 : stm (stm m 76 8 0) 76 9 0 76 9 = 0 := stm_eq _ _ _ _
  have t : TM (stm (stm m 76 8 0) 76 9 0) := ⟨(hM.st (by decide)).st (by decide), by rw [e4]; exact hl, by rw [e8, e4]; omega⟩
  have t2 := blk_h t
  rw [e8] at t2
  have e : rb0 m 76 9 = 0 := by unfold rb0; rw [blk_o, e9]
  exact ⟨t, ⟨t.sk, by rw [e]; decide, by rw [e]; exact t2⟩, e⟩
theorem s_X12_readsAll {G : GG} {m : Mem} {Q : Option Value → Mem → Prop} (hM : MR m) (hl : 0 ≤ m 76 4 ∧ m 76 4 ≤ 120) (hQ : Q (some (.int (J ((rdA m).1)))) ((rdA m).2)) : CM G 3 mX12_readsAll [.ref (G.2.2.2 76)] m Q := by
  refine CM.of dkX12_readsAll (Or.inl rfl) [some _, none] rfl (Nat.le_of_ble_eq_true rfl) ?_
  obtain ⟨t1, t2, t3⟩ := rb0_I hM hl
  refine x_aload_n (i := 0) (pc' := 1) rfl rfl rfl rfl ?_
  refine x_iconst (i := 1) (pc' := 2) rfl rfl ?_
  refine m_putf (kz := 8) (i := 2) (pc' := 5) rfl rfl flX12_254 (sh76 G) (fun _ => rfl) rfl (Nat.le_of_ble_eq_true rfl) rfl rfl ?_
  refine x_aload_n (i := 3) (pc' := 6) rfl rfl rfl rfl ?_
  refine x_iconst (i := 4) (pc' := 7) rfl rfl ?_
  refine m_putf (kz := 9) (i := 5) (pc' := 10) rfl rfl flX12_274 (sh76 G) (fun _ => rfl) rfl (Nat.le_of_ble_eq_true rfl) rfl rfl ?_
  refine x_iconst (i := 6) (pc' := 11) rfl rfl ?_
  refine x_istore_n (L' := [some _, some _]) (i := 7) (pc' := 12) rfl rfl rfl rfl (by decide) rfl ?_
  refine x_aload_n (i := 8) (pc' := 13) rfl rfl rfl rfl ?_
  refine m_callV (i := 9) (pc' := 16) (av := []) (rest := []) rfl rfl (by decide) lX12_267 (sh76 G) rfl rfl rfl rfl rfl (Nat.le_of_ble_eq_true rfl) (Nat.le_refl _) (Nat.le_refl _) (s_X12_blanks t1 ?_)
  dsimp only [psh]
  exact ra_loop 60 (rb0 m) (by rw [t3]; rfl) t2 hQ
