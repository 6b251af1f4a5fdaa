theorem adx_ne (m : Mem) (h p q f s : Int) {r : Nat} (h2 : r ≠ 2) (h3 : r ≠ 3) : adx m h p q f s r = m r := by
  unfold adx
  split
  · rw [apx_8 _ h2 h3, stm_ne _ _ _ h3]
    unfold askm
    rw [stm_ne _ _ _ h3, stm_ne _ _ _ h3, stm_ne _ _ _ h3, stm_ne _ _ _ h3]
  · rfl
theorem lax_ne (m : Mem) (o : Int) {r : Nat} (h : r ≠ 7) : lax m o r = m r := by
  unfold lax lam
  split
  · exact it_8 (fun i x => stm_ne _ _ _ h) _ _ _
  · rfl
theorem xcx_ne (m : Mem) (n : Int) {r : Nat} (h : r < 2 ∨ 7 < r) : xcx m n r = m r := by
  unfold xcx
  (repeat' split) <;> first | rfl | exact adx_ne _ _ _ _ _ _ (by omega) (by omega) | exact awx_ne _ _ _ _ (by omega) (by omega) | exact wtx_ne _ _ _ (by omega) | exact lax_ne _ _ (by omega) | exact dpx_ne _ _ (by omega) (by omega) (by omega) | exact stm_ne _ _ _ (by omega)
def XG (m : Mem) (k : Int) : Prop := MR m ∧ CN m ∧ SN m ∧ (∀ i, 0 ≤ i → i < m 5 1 → 0 ≤ m 6 (i * 3)) ∧ (0 ≤ m 52 6 ∧ m 52 6 ≤ 60) ∧ (0 ≤ k ∧ k < m 52 6) ∧ (0 ≤ m 55 k ∧ m 55 k ≤ 6)
theorem xcr_rg {m : Mem} {k : Int} (h : XG m k) : rg (xcr m k) := by
  obtain ⟨hM, hn, hs, _⟩ := h
  have h1 := hn.1; have h2 := hn.2; have h3 := hs.1; have h4 := hs.2
  have hl := lac_02 m k 6 0 0
  have ha := adr_rg hn (nmb m k 0) (nmb m k 1) (nmb m k 2) (nmb m k 3) (nmb m k 4)
  unfold xcr awr wtr dpr
  (repeat' split) <;> first | omega | exact hM _ _
def xgd : Nat → Int → Mem → Prop
  | 0, _, _ => True
  | c + 1, k, x => XG x k ∧ (0 ≤ xcr x k → xgd c (k + 1) (xcx x k))
noncomputable def xrl : Nat → Int → Mem → Int × Mem
  | 0, _, x => (-1, x)
  | c + 1, k, x => if xcr x k < 0 then (k, xcx x k) else xrl c (k + 1) (xcx x k)
def xrz (n : Int) (r : Int × Mem) : Int × Mem := if r.1 = -1 then (n, ks r.2) else (-1000 - r.1, cps r.2 1 (10 + 7 * (r.2 8 1).toNat))
noncomputable def xrs (y : Mem) : Int × Mem := xrz (y 52 6) (xrl (y 52 6).toNat 0 (stg y))
noncomputable def xrm (m : Mem) : Int × Mem := if (prs m).1 = -1 then xrs (prs m).2 else (-10 - (prs m).1, (prs m).2)
theorem xr_ok {G : GG} {Q : Option Value → Mem → Prop} {x : Mem} {L1 L2 : Option Value} {n : Int} (hn : x 52 6 = n) (h0 : 0 ≤ n ∧ n ≤ 60) (hx : PX x) (he : ER x) (hQ : Q (some (.int (J n))) (ks x)) : BW G 6 mX11_reads Q 73 [some (.ref (G.2.2.2 0)), L1, L2] [] x := by
  have hQ2 : Q (some (.int (J n))) (udm x n) := (by unfold udm; rw [if_pos h0.1]; exact hQ)
  refine x_aload_n (i := 38) (pc' := 74) rfl rfl rfl rfl ?_
  refine x_aload_n (i := 39) (pc' := 75) rfl rfl rfl rfl ?_
  refine m_getf (i := 40) (pc' := 78) rfl rfl flX11_26 (sh0 G) rfl rfl ?_
  refine m_getf (i := 41) (pc' := 81) rfl rfl flX11_252 (sh52 G) rfl rfl ?_
  rw [hn]
  refine m_callV (i := 42) (pc' := 84) (av := [_]) (rest := []) rfl rfl (by decide) lX11_90 (sh0 G) rfl rfl rfl rfl rfl (Nat.le_of_ble_eq_true rfl) (Nat.le_refl _) (Nat.le_refl _) (s_X11_undoable hx he (by omega) ?_)
  dsimp only [psh]
  exact m_ireturn (i := 43) rfl rfl (hQ2)
theorem xr_no {G : GG} {Q : Option Value → Mem → Prop} {x : Mem} {L1 : Option Value} {k : Int} (hx : PX x) (hQ : Q (some (.int (J (-1000 - k)))) (cps x 1 (10 + 7 * (x 8 1).toNat))) : BW G 6 mX11_reads Q 50 [some (.ref (G.2.2.2 0)), L1, some (.int (J k))] [] x := by
  refine x_aload_n (i := 27) (pc' := 51) rfl rfl rfl rfl ?_
  refine m_getf (i := 28) (pc' := 54) rfl rfl flX11_19 (sh0 G) rfl rfl ?_
  refine x_aload_n (i := 29) (pc' := 55) rfl rfl rfl rfl ?_
  refine m_getf (i := 30) (pc' := 58) rfl rfl flX11_10 (sh0 G) rfl rfl ?_
  refine m_callV (i := 31) (pc' := 61) (av := [_]) (rest := []) rfl rfl (by decide) lX11_258 (sh8 G) rfl rfl rfl rfl rfl (Nat.le_of_ble_eq_true rfl) (Nat.le_refl _) (Nat.le_refl _) (s_X5_unstage hx.1 ?_)
  dsimp only [psh]
  refine x_sipush (i := 32) (pc' := 64) rfl rfl (by decide) ?_
  refine x_iload_n (i := 33) (pc' := 65) rfl rfl rfl rfl ?_
  refine x_isub (i := 34) (pc' := 66) rfl rfl ?_
  exact m_ireturn (i := 35) rfl rfl (hQ)
theorem xr_loop {G : GG} {Q : Option Value → Mem → Prop} {n : Int} (hn60 : n ≤ 60) : ∀ (c : Nat) (k : Int) (x : Mem), k + c = n → 0 ≤ k → x 52 6 = n → PX x → ER x → xgd c k x → Q (some (.int (J (xrz n (xrl c k x)).1))) (xrz n (xrl c k x)).2 → BW G 6 mX11_reads Q 31 [some (.ref (G.2.2.2 0)), none, some (.int (J k))] [] x := by
  intro c
  induction c with
  | zero =>
    intro k x h1 h2 h3 hx he hg hQ
    unfold xrl xrz at hQ
    rw [if_pos rfl] at hQ
    refine x_iload_n (i := 18) (pc' := 32) rfl rfl rfl rfl ?_
    refine x_aload_n (i := 19) (pc' := 33) rfl rfl rfl rfl ?_
    refine m_getf (i := 20) (pc' := 36) rfl rfl flX11_26 (sh0 G) rfl rfl ?_
    refine m_getf (i := 21) (pc' := 39) rfl rfl flX11_252 (sh52 G) rfl rfl ?_
    refine x_icmpge (i := 22) (pc' := 42) (tgt := 73) rfl rfl (by decide) ⟨by omega, by omega⟩ ⟨by omega, by omega⟩ (fun c1 => ?_) (fun c1 => by exfalso; omega)
    exact xr_ok h3 (by omega) hx he hQ
  | succ c ih =>
    intro k x h1 h2 h3 hx he hg hQ
    unfold xgd at hg
    unfold xrl at hQ
    have hr := xcr_rg hg.1
    obtain ⟨g1, g2, g3, g4, g5, g6, g7⟩ := hg.1
    have e8 : xcx x k 8 = x 8 := xcx_ne x k (by decide)
    have e75 : xcx x k 75 = x 75 := xcx_ne x k (by decide)
    have e52 : xcx x k 52 = x 52 := xcx_ne x k (by decide)
    have hx2 : PX (xcx x k) := px_of e8 hx
    have he2 : ER (xcx x k) := er_of e75 he
    by_cases hz : xcr x k < 0
    · rw [if_pos hz] at hQ
      unfold xrz at hQ
      rw [if_neg (by dsimp only; omega)] at hQ
      dsimp only at hQ
      refine x_iload_n (i := 18) (pc' := 32) rfl rfl rfl rfl ?_
      refine x_aload_n (i := 19) (pc' := 33) rfl rfl rfl rfl ?_
      refine m_getf (i := 20) (pc' := 36) rfl rfl flX11_26 (sh0 G) rfl rfl ?_
      refine m_getf (i := 21) (pc' := 39) rfl rfl flX11_252 (sh52 G) rfl rfl ?_
      refine x_icmpge (i := 22) (pc' := 42) (tgt := 73) rfl rfl (by decide) ⟨by omega, by omega⟩ ⟨by omega, by omega⟩ (fun c1 => by exfalso; omega) (fun c1 => ?_)
      refine x_aload_n (i := 23) (pc' := 43) rfl rfl rfl rfl ?_
      refine x_iload_n (i := 24) (pc' := 44) rfl rfl rfl rfl ?_
      refine m_callV (i := 25) (pc' := 47) (av := [_]) (rest := []) rfl rfl (by decide) lX11_255 (sh0 G) rfl rfl rfl rfl rfl (Nat.le_of_ble_eq_true rfl) (Nat.le_refl _) (Nat.le_refl _) (s_X11_execute g1 g2 g3 g4 g5 g6 g7 ?_)
      dsimp only [psh]
      refine x_ifge (i := 26) (pc' := 50) (tgt := 67) rfl rfl (by decide) ⟨by omega, by omega⟩ (fun c2 => by exfalso; omega) (fun c2 => ?_)
      exact xr_no hx2 hQ
    · rw [if_neg hz] at hQ
      refine x_iload_n (i := 18) (pc' := 32) rfl rfl rfl rfl ?_
      refine x_aload_n (i := 19) (pc' := 33) rfl rfl rfl rfl ?_
      refine m_getf (i := 20) (pc' := 36) rfl rfl flX11_26 (sh0 G) rfl rfl ?_
      refine m_getf (i := 21) (pc' := 39) rfl rfl flX11_252 (sh52 G) rfl rfl ?_
      refine x_icmpge (i := 22) (pc' := 42) (tgt := 73) rfl rfl (by decide) ⟨by omega, by omega⟩ ⟨by omega, by omega⟩ (fun c1 => by exfalso; omega) (fun c1 => ?_)
      refine x_aload_n (i := 23) (pc' := 43) rfl rfl rfl rfl ?_
      refine x_iload_n (i := 24) (pc' := 44) rfl rfl rfl rfl ?_
      refine m_callV (i := 25) (pc' := 47) (av := [_]) (rest := []) rfl rfl (by decide) lX11_255 (sh0 G) rfl rfl rfl rfl rfl (Nat.le_of_ble_eq_true rfl) (Nat.le_refl _) (Nat.le_refl _) (s_X11_execute g1 g2 g3 g4 g5 g6 g7 ?_)
      dsimp only [psh]
      refine x_ifge (i := 26) (pc' := 50) (tgt := 67) rfl rfl (by decide) ⟨by omega, by omega⟩ (fun c2 => ?_) (fun c2 => by exfalso; omega)
      refine x_iinc (L' := [some _, none, some _]) (i := 36) (pc' := 70) rfl rfl rfl rfl (by decide) rfl ?_
      refine x_goto (i := 37) (pc' := 31) rfl (by decide) ?_
      exact ih (k + 1) (xcx x k) (by omega) (by omega) (by rw [e52]; exact h3) hx2 he2 (hg.2 (by omega)) hQ
theorem xr_go {G : GG} {Q : Option Value → Mem → Prop} {y : Mem} (h60 : 0 ≤ y 52 6 ∧ y 52 6 ≤ 60) (hx : PX y) (he : ER y) (hg : xgd (y 52 6).toNat 0 (stg y)) (hQ : Q (some (.int (J (xrs y).1))) (xrs y).2) : BW G 6 mX11_reads Q 18 [some (.ref (G.2.2.2 0)), none, none] [] y := by
  unfold xrs at hQ
  have e52 : stg y 52 = y 52 := stg_ne y (by decide) hx
  have hx2 : PX (stg y) := px_of (stg_ne y (by decide) hx) hx
  have he2 : ER (stg y) := er_of (stg_ne y (by decide) hx) he
  refine x_aload_n (i := 11) (pc' := 19) rfl rfl rfl rfl ?_
  refine m_getf (i := 12) (pc' := 22) rfl rfl flX11_19 (sh0 G) rfl rfl ?_
  refine x_aload_n (i := 13) (pc' := 23) rfl rfl rfl rfl ?_
  refine m_getf (i := 14) (pc' := 26) rfl rfl flX11_10 (sh0 G) rfl rfl ?_
  refine m_callV (i := 15) (pc' := 29) (av := [_]) (rest := []) rfl rfl (by decide) lX11_76 (sh8 G) rfl rfl rfl rfl rfl (Nat.le_of_ble_eq_true rfl) (Nat.le_refl _) (Nat.le_refl _) (s_X5_stage hx.1 ?_)
  dsimp only [psh]
  refine x_iconst (i := 16) (pc' := 30) rfl rfl ?_
  refine x_istore_n (L' := [some _, none, some _]) (i := 17) (pc' := 31) rfl rfl rfl rfl (by decide) rfl ?_
  generalize stg y = z at *
  exact xr_loop h60.2 (y 52 6).toNat 0 z (by omega) (by omega) (by rw [e52]) hx2 he2 hg hQ
theorem nl_ne {q : Nat} (h2 : q ≠ 52) (h5 : q ≠ 55) (h6 : q ≠ 56) (n : Int) : ∀ (k : Nat) (i : Int) (x : Mem), (nl n k i x).2 q = x q
  | 0, i, x => rfl
  | k + 1, i, x => by
    have hp : pn x n i q = x q := by unfold pn; rw [stm_ne _ _ _ h5, stm_ne _ _ _ h6, stm_ne _ _ _ h2]
    unfold nl
    (repeat' split)
    · exact hp
    · rw [nl_ne h2 h5 h6 n k]; unfold skm; rw [stm_ne _ _ _ h2]; exact hp
    · rfl
theorem po_ne {q : Nat} (h2 : q ≠ 52) (h4 : q ≠ 54) (h5 : q ≠ 55) (h6 : q ≠ 56) (x : Mem) (n : Int) : (po x n).2 q = x q := by
  have h1 : (por x n).2 q = x q := by
    unfold por po1 skm
    rw [nl_ne h2 h5 h6, stm_ne _ _ _ h2, stm_ne _ _ _ h2, stm_ne _ _ _ h5, stm_ne _ _ _ h4]
  unfold po pfn
  (repeat' split) <;> dsimp only
  · exact h1
  · rw [stm_ne _ _ _ h2]; exact h1
  · exact h1
theorem pl_ne {q : Nat} (h2 : q ≠ 52) (h4 : q ≠ 54) (h5 : q ≠ 55) (h6 : q ≠ 56) : ∀ (k : Nat) (n : Int) (x : Mem), (pl k n x).2 q = x q
  | 0, n, x => rfl
  | k + 1, n, x => by
    have hs : skm x q = x q := stm_ne _ _ _ h2
    unfold pl
    (repeat' split)
    · exact hs
    · dsimp only; rw [po_ne h2 h4 h5 h6, hs]
    · rw [pl_ne h2 h4 h5 h6 k, stm_ne _ _ _ h2, po_ne h2 h4 h5 h6, hs]
theorem prs_ne (m : Mem) {q : Nat} (h2 : q ≠ 52) (h4 : q ≠ 54) (h5 : q ≠ 55) (h6 : q ≠ 56) : (prs m).2 q = m q := by
  unfold prs
  rw [pl_ne h2 h4 h5 h6, stm_ne _ _ _ h2, stm_ne _ _ _ h2]
theorem nl_6 (n : Int) : ∀ (k : Nat) (i : Int) (x : Mem) {j : Int}, j ≠ 2 → (nl n k i x).2 52 j = x 52 j
  | 0, i, x, j, hj => rfl
  | k + 1, i, x, j, hj => by
    have hp : pn x n i 52 j = x 52 j := by unfold pn; rw [stm_ne _ _ _ (by decide), stm_ne _ _ _ (by decide), stm_ix _ _ _ hj]
    unfold nl
    (repeat' split)
    · exact hp
    · rw [nl_6 n k _ _ hj]; unfold skm; rw [stm_ix _ _ _ hj]; exact hp
    · rfl
theorem po_6 (x : Mem) (n : Int) {j : Int} (hj : j ≠ 2) : (po x n).2 52 j = x 52 j := by
  have h1 : (por x n).2 52 j = x 52 j := by
    unfold por po1 skm
    rw [nl_6 n _ _ _ hj, stm_ix _ _ _ hj, stm_ix _ _ _ hj, stm_ne _ _ _ (by decide), stm_ne _ _ _ (by decide)]
  unfold po pfn
  (repeat' split) <;> dsimp only
  · exact h1
  · rw [stm_ix _ _ _ hj]; exact h1
  · exact h1
theorem pl_I : ∀ (k : Nat) (n : Int) (x : Mem), n + k = 60 → 0 ≤ n → TX x → x 52 6 = n → TX (pl k n x).2 ∧ (n ≤ (pl k n x).2 52 6 ∧ (pl k n x).2 52 6 ≤ 60) ∧ (pl k n x).2 52 1 = x 52 1 ∧ (-1 ≤ (pl k n x).1 ∧ (pl k n x).1 ≤ 120)
  | 0, n, x, h, h0, hx, h6 => by
    unfold pl
    exact ⟨hx, by dsimp only; omega, rfl, by dsimp only; omega⟩
  | k + 1, n, x, h, h0, hx, h6 => by
    have s6 : skm x 52 6 = x 52 6 := stm_ix _ _ _ (by decide)
    have s1 : skm x 52 1 = x 52 1 := stm_ix _ _ _ (by decide)
    have t := po_TX (n := n) hx.sk
    have u6 := po_6 (skm x) n (j := 6) (by decide)
    have u1 := po_6 (skm x) n (j := 1) (by decide)
    have hb := hx.2.1
    have ht := t.2.2
    unfold pl
    (repeat' split)
    · exact ⟨hx.sk, by dsimp only; omega, s1, by dsimp only; omega⟩
    · exact ⟨t, by dsimp only; omega, by dsimp only; omega, by dsimp only; omega⟩
    · obtain ⟨a1, a2, a3, a4⟩ := pl_I k (n + 1) (stm (po (skm x) n).2 52 6 (n + 1)) (by omega) (by omega) (t.o6 (by omega)) (stm_eq _ _ _ _)
      exact ⟨a1, by omega, a3.trans ((stm_ix _ _ _ (by decide)).trans (u1.trans s1)), a4⟩
theorem prs_I {m : Mem} (h : MR m) (h2 : 0 ≤ m 52 1 ∧ m 52 1 ≤ 120) : TX (prs m).2 ∧ (0 ≤ (prs m).2 52 6 ∧ (prs m).2 52 6 ≤ 60) ∧ (prs m).2 52 1 = m 52 1 ∧ (-1 ≤ (prs m).1 ∧ (prs m).1 ≤ 120) := by
  have e1 : stm (stm m 52 6 0) 52 2 0 52 1 = m 52 1 := by rw [stm_ix _ _ _ (by decide), stm_ix _ _ _ (by decide)]
  have t : TX (stm (stm m 52 6 0) 52 2 0) := ⟨(h.st (by decide)).st (by decide), by rw [e1]; exact h2, by rw [stm_eq, e1]; omega⟩
  obtain ⟨a1, a2, a3, a4⟩ := pl_I 60 0 _ (by omega) (by omega) t (by rw [stm_ix _ _ _ (by decide), stm_eq])
  exact ⟨a1, a2, a3.trans e1, a4⟩
theorem xr_top {G : GG} {Q : Option Value → Mem → Prop} {r : Int × Mem} (hr : -1 ≤ r.1 ∧ r.1 ≤ 120) (h60 : 0 ≤ r.2 52 6 ∧ r.2 52 6 ≤ 60) (hx : PX r.2) (he : ER r.2) (hg : r.1 = -1 → xgd (r.2 52 6).toNat 0 (stg r.2)) (hQ : Q (some (.int (J (if r.1 = -1 then (xrs r.2).1 else -10 - r.1)))) (if r.1 = -1 then (xrs r.2).2 else r.2)) : BW G 6 mX11_reads Q 7 [some (.ref (G.2.2.2 0)), none, none] [.int (J (r.1))] r.2 := by
  by_cases hz : r.1 = -1
  · rw [if_pos hz, if_pos hz] at hQ
    refine x_istore_n (L' := [some _, some _, none]) (i := 3) (pc' := 8) rfl rfl rfl rfl (by decide) rfl ?_
    refine x_iload_n (i := 4) (pc' := 9) rfl rfl rfl rfl ?_
    refine x_iconst (i := 5) (pc' := 10) rfl rfl ?_
    refine x_icmpeq (i := 6) (pc' := 13) (tgt := 18) rfl rfl (by decide) ⟨by omega, by omega⟩ ⟨by omega, by omega⟩ (fun c1 => ?_) (fun c1 => by exfalso; omega)
    refine AW.le (K := [some (.ref (G.2.2.2 0)), none, none]) (by simp [lvle]) ?_
    exact xr_go h60 hx he (hg hz) hQ
  · rw [if_neg hz, if_neg hz] at hQ
    refine x_istore_n (L' := [some _, some _, none]) (i := 3) (pc' := 8) rfl rfl rfl rfl (by decide) rfl ?_
    refine x_iload_n (i := 4) (pc' := 9) rfl rfl rfl rfl ?_
    refine x_iconst (i := 5) (pc' := 10) rfl rfl ?_
    refine x_icmpeq (i := 6) (pc' := 13) (tgt := 18) rfl rfl (by decide) ⟨by omega, by omega⟩ ⟨by omega, by omega⟩ (fun c1 => by exfalso; omega) (fun c1 => ?_)
    refine x_bipush (i := 7) (pc' := 15) rfl rfl (by decide) ?_
    refine x_iload_n (i := 8) (pc' := 16) rfl rfl rfl rfl ?_
    refine x_isub (i := 9) (pc' := 17) rfl rfl ?_
    exact m_ireturn (i := 10) rfl rfl (hQ)
theorem s_X11_reads {G : GG} {m : Mem} {Q : Option Value → Mem → Prop} (h : GI m) (hg : (prs m).1 = -1 → xgd ((prs m).2 52 6).toNat 0 (stg (prs m).2)) (hQ : Q (some (.int (J (xrm m).1))) (xrm m).2) : CM G 6 mX11_reads [.ref (G.2.2.2 0)] m Q := by
  refine CM.of dkX11_reads (Or.inl rfl) [some _, none, none] rfl (Nat.le_of_ble_eq_true rfl) ?_
  obtain ⟨hM, _, hx, htx, htr, her⟩ := h
  obtain ⟨a1, a2, a3, a4⟩ := prs_I hM htx
  have hx2 : PX (prs m).2 := px_of (prs_ne m (by decide) (by decide) (by decide) (by decide)) hx
  have he2 : ER (prs m).2 := er_of (prs_ne m (by decide) (by decide) (by decide) (by decide)) her
  have hQ2 : Q (some (.int (J (if (prs m).1 = -1 then (xrs (prs m).2).1 else -10 - (prs m).1)))) (if (prs m).1 = -1 then (xrs (prs m).2).2 else (prs m).2) := (by
    unfold xrm at hQ
    by_cases hz : (prs m).1 = -1
    · rw [if_pos hz] at hQ; rw [if_pos hz, if_pos hz]; exact hQ
    · rw [if_neg hz] at hQ; rw [if_neg hz, if_neg hz]; exact hQ)
  refine x_aload_n (i := 0) (pc' := 1) rfl rfl rfl rfl ?_
  refine m_getf (i := 1) (pc' := 4) rfl rfl flX11_26 (sh0 G) rfl rfl ?_
  refine m_callV (i := 2) (pc' := 7) (av := []) (rest := []) rfl rfl (by decide) lX11_249 (sh52 G) rfl rfl rfl rfl rfl (Nat.le_of_ble_eq_true rfl) (Nat.le_refl _) (Nat.le_refl _) (s_X7_parse hM htx ?_)
  dsimp only [psh]
  generalize prs m = r at *
  exact xr_top a4 a2 hx2 he2 hg hQ2
