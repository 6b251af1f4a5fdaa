theorem TX.o6 {m : Mem} (h : TX m) {z : Int} (hz : rg z) : TX (stm m 52 6 z) := by
  obtain ⟨h1, h2, h3⟩ := h
  have e1 : stm m 52 6 z 52 1 = m 52 1 := stm_ix _ _ _ (by decide)
  have e2 : stm m 52 6 z 52 2 = m 52 2 := stm_ix _ _ _ (by decide)
  exact ⟨h1.st hz, by rw [e1]; exact h2, by rw [e1, e2]; exact h3⟩
theorem nl_TX {n : Int} : ∀ (k : Nat) (i : Int) (x : Mem), 0 ≤ i → i + k ≤ 6 → TX x → TX (nl n k i x).2
  | 0, _, _, _, _, h => h
  | k + 1, i, x, h0, h1, h => by
    unfold nl
    split
    · next hd =>
      have t2 := pn_TX h hd (n := n) (i := i) (by omega)
      split
      · exact t2
      · exact nl_TX k (i + 1) _ (by omega) (by omega) t2.sk
    · exact h
theorem pfn_TX {f n ok : Int} {y : Mem} (h : TX y) : TX (pfn f n ok y).2 := by
  unfold pfn
  split
  · exact h
  · split
    · next hc =>
      have := cu_lt (m := y) (by omega)
      exact h.mv (by omega)
    · exact h
theorem po_TX {m : Mem} {n : Int} (h : TX m) : TX (po m n).2 := by
  have hmo := mo_le (cu m)
  have hcu := cu_rg h.1
  unfold po
  split
  · exact h
  · next hm1 =>
    have hl : 48 ≤ cu m := (by unfold mo at hm1; (repeat' split at hm1) <;> omega)
    have hlt := cu_lt hl
    have t1 : TX (stm (stm (stm m 54 n (cu m)) 55 n 0) 52 2 (m 52 2 + 1)) := ((h.ot (q := 54) (by decide) hcu).ot (q := 55) (by decide) (by decide)).mv (by show 0 ≤ m 52 2 + 1 ∧ m 52 2 + 1 ≤ m 52 1; omega)
    exact pfn_TX (nl_TX _ _ _ (by omega) (by omega) t1.sk)
theorem pfn_01 (f n ok : Int) (y : Mem) : (pfn f n ok y).1 = 0 ∨ (pfn f n ok y).1 = 1 := by
  unfold pfn
  (repeat' split) <;> first | exact Or.inl rfl | exact Or.inr rfl
theorem po_01 (m : Mem) (n : Int) : (po m n).1 = 0 ∨ (po m n).1 = 1 := by
  unfold po
  split
  · exact Or.inl rfl
  · exact pfn_01 _ _ _ _
theorem pl_loop {G : GG} {Q : Option Value → Mem → Prop} : ∀ (k : Nat) (n : Int) (x : Mem), n + k = 60 → 0 ≤ n → TX x → Q (some (.int (J (pl k n x).1))) (pl k n x).2 → BW G 5 mX7_parse Q 12 [some (.ref (G.2.2.2 52)), some (.int (J (n)))] [] x := by
  intro k
  induction k with
  | zero =>
    intro n x hk h0 hx hQ
    refine x_iload_n (i := 8) (pc' := 13) rfl rfl rfl rfl ?_
    refine x_bipush (i := 9) (pc' := 15) rfl rfl (by decide) ?_
    refine x_icmpge (i := 10) (pc' := 18) (tgt := 66) rfl rfl (by decide) ⟨by omega, by omega⟩ ⟨by omega, by omega⟩ (fun c1 => ?_) (fun c1 => by exfalso; omega)
    refine x_iconst (i := 35) (pc' := 67) rfl rfl ?_
    exact m_ireturn (i := 36) rfl rfl (hQ)
  | succ k ih =>
    intro n x hk h0 hx hQ
    have t1 := hx.sk
    have t2 := po_TX (n := n) t1
    have e1 : skm x 52 1 = x 52 1 := mv_1 _ _
    have b1 := t1.2.2; have b2 := t1.2.1
    have h01 := po_01 (skm x) n
    unfold pl at hQ
    by_cases hc : 0 < n ∧ x 52 1 ≤ skm x 52 2
    · rw [if_pos hc] at hQ
      refine x_iload_n (i := 8) (pc' := 13) rfl rfl rfl rfl ?_
      refine x_bipush (i := 9) (pc' := 15) rfl rfl (by decide) ?_
      refine x_icmpge (i := 10) (pc' := 18) (tgt := 66) rfl rfl (by decide) ⟨by omega, by omega⟩ ⟨by omega, by omega⟩ (fun c1 => by exfalso; omega) (fun c1 => ?_)
      refine x_aload_n (i := 11) (pc' := 19) rfl rfl rfl rfl ?_
      refine m_callV (i := 12) (pc' := 22) (av := []) (rest := []) rfl rfl (by decide) lX7_42 (sh52 G) rfl rfl rfl rfl rfl (Nat.le_of_ble_eq_true rfl) (Nat.le_refl _) (Nat.le_refl _) (s_X7_skipBlanks hx ?_)
      dsimp only [psh]
      refine x_iload_n (i := 13) (pc' := 23) rfl rfl rfl rfl ?_
      refine x_ifle (i := 14) (pc' := 26) (tgt := 40) rfl rfl (by decide) ⟨by omega, by omega⟩ (fun c2 => ?_) (fun c2 => ?_)
      · first | (exfalso; omega; done) | skip
        all_goals (
          exfalso; omega
          skip)
      · first | (exfalso; omega; done) | skip
        all_goals (
          refine x_aload_n (i := 15) (pc' := 27) rfl rfl rfl rfl ?_
          refine m_getf (i := 16) (pc' := 30) rfl rfl flX7_19 (sh52 G) rfl rfl ?_
          refine x_aload_n (i := 17) (pc' := 31) rfl rfl rfl rfl ?_
          refine m_getf (i := 18) (pc' := 34) rfl rfl flX7_15 (sh52 G) rfl rfl ?_
          rw [e1]
          refine x_icmplt (i := 19) (pc' := 37) (tgt := 40) rfl rfl (by decide) ⟨by omega, by omega⟩ ⟨by omega, by omega⟩ (fun c3 => ?_) (fun c3 => ?_)
          · first | (exfalso; omega; done) | skip
            all_goals (
              exfalso; omega
              skip)
          · first | (exfalso; omega; done) | skip
            all_goals (
              refine x_goto (i := 20) (pc' := 66) rfl (by decide) ?_
              refine x_iconst (i := 35) (pc' := 67) rfl rfl ?_
              exact m_ireturn (i := 36) rfl rfl (hQ)
              skip)
          skip)
    · rw [if_neg hc] at hQ
      have T : BW G 5 mX7_parse Q 40 [some (.ref (G.2.2.2 52)), some (.int (J (n)))] [] (skm x) := by
        by_cases hp : (po (skm x) n).1 = 0
        · rw [if_pos hp] at hQ
          refine x_aload_n (i := 21) (pc' := 41) rfl rfl rfl rfl ?_
          refine x_iload_n (i := 22) (pc' := 42) rfl rfl rfl rfl ?_
          refine m_callV (i := 23) (pc' := 45) (av := [_]) (rest := []) rfl rfl (by decide) lX7_45 (sh52 G) rfl rfl rfl rfl rfl (Nat.le_of_ble_eq_true rfl) (Nat.le_refl _) (Nat.le_refl _) (s_X7_parseOrder t1 (by omega) ?_)
          dsimp only [psh]
          refine x_ifne (i := 24) (pc' := 48) (tgt := 53) rfl rfl (by decide) ⟨by omega, by omega⟩ (fun c1 => by exfalso; omega) (fun c1 => ?_)
          refine x_aload_n (i := 25) (pc' := 49) rfl rfl rfl rfl ?_
          refine m_getf (i := 26) (pc' := 52) rfl rfl flX7_19 (sh52 G) rfl rfl ?_
          exact m_ireturn (i := 27) rfl rfl (hQ)
        · rw [if_neg hp] at hQ
          refine x_aload_n (i := 21) (pc' := 41) rfl rfl rfl rfl ?_
          refine x_iload_n (i := 22) (pc' := 42) rfl rfl rfl rfl ?_
          refine m_callV (i := 23) (pc' := 45) (av := [_]) (rest := []) rfl rfl (by decide) lX7_45 (sh52 G) rfl rfl rfl rfl rfl (Nat.le_of_ble_eq_true rfl) (Nat.le_refl _) (Nat.le_refl _) (s_X7_parseOrder t1 (by omega) ?_)
          dsimp only [psh]
          refine x_ifne (i := 24) (pc' := 48) (tgt := 53) rfl rfl (by decide) ⟨by omega, by omega⟩ (fun c1 => ?_) (fun c1 => by exfalso; omega)
          refine x_aload_n (i := 28) (pc' := 54) rfl rfl rfl rfl ?_
          refine x_iload_n (i := 29) (pc' := 55) rfl rfl rfl rfl ?_
          refine x_iconst (i := 30) (pc' := 56) rfl rfl ?_
          refine x_iadd (i := 31) (pc' := 57) rfl rfl ?_
          refine m_putf (kz := 6) (i := 32) (pc' := 60) rfl rfl flX7_31 (sh52 G) (fun _ => rfl) rfl (Nat.le_of_ble_eq_true rfl) rfl rfl ?_
          refine x_iinc (L' := [some _, some _]) (i := 33) (pc' := 63) rfl rfl rfl rfl (by decide) rfl ?_
          refine x_goto (i := 34) (pc' := 12) rfl (by decide) ?_
          exact ih (n + 1) _ (by omega) (by omega) (t2.o6 (by omega)) hQ
      refine x_iload_n (i := 8) (pc' := 13) rfl rfl rfl rfl ?_
      refine x_bipush (i := 9) (pc' := 15) rfl rfl (by decide) ?_
      refine x_icmpge (i := 10) (pc' := 18) (tgt := 66) rfl rfl (by decide) ⟨by omega, by omega⟩ ⟨by omega, by omega⟩ (fun c1 => by exfalso; omega) (fun c1 => ?_)
      refine x_aload_n (i := 11) (pc' := 19) rfl rfl rfl rfl ?_
      refine m_callV (i := 12) (pc' := 22) (av := []) (rest := []) rfl rfl (by decide) lX7_42 (sh52 G) rfl rfl rfl rfl rfl (Nat.le_of_ble_eq_true rfl) (Nat.le_refl _) (Nat.le_refl _) (s_X7_skipBlanks hx ?_)
      dsimp only [psh]
      refine x_iload_n (i := 13) (pc' := 23) rfl rfl rfl rfl ?_
      refine x_ifle (i := 14) (pc' := 26) (tgt := 40) rfl rfl (by decide) ⟨by omega, by omega⟩ (fun c2 => ?_) (fun c2 => ?_)
      · first | (exfalso; omega; done) | skip
        all_goals (
          exact T
          skip)
      · first | (exfalso; omega; done) | skip
        all_goals (
          refine x_aload_n (i := 15) (pc' := 27) rfl rfl rfl rfl ?_
          refine m_getf (i := 16) (pc' := 30) rfl rfl flX7_19 (sh52 G) rfl rfl ?_
          refine x_aload_n (i := 17) (pc' := 31) rfl rfl rfl rfl ?_
          refine m_getf (i := 18) (pc' := 34) rfl rfl flX7_15 (sh52 G) rfl rfl ?_
          rw [e1]
          refine x_icmplt (i := 19) (pc' := 37) (tgt := 40) rfl rfl (by decide) ⟨by omega, by omega⟩ ⟨by omega, by omega⟩ (fun c3 => ?_) (fun c3 => ?_)
          · first | (exfalso; omega; done) | skip
            all_goals (
              exact T
              skip)
          · first | (exfalso; omega; done) | skip
            all_goals (
              refine x_goto (i := 20) (pc' := 66) rfl (by decide) ?_
              exfalso; omega
              skip)
          skip)
theorem s_X7_parse {G : GG} {m : Mem} {Q : Option Value → Mem → Prop} (h : MR m) (h2 : 0 ≤ m 52 1 ∧ m 52 1 ≤ 120) (hQ : Q (some (.int (J (prs m).1))) (prs m).2) : CM G 5 mX7_parse [.ref (G.2.2.2 52)] m Q := by
  refine CM.of dkX7_parse (Or.inl rfl) [some _, none] rfl (Nat.le_of_ble_eq_true rfl) ?_
  have t0 : TX (stm (stm m 52 6 0) 52 2 0) := (by
    have e1 : stm (stm m 52 6 0) 52 2 0 52 1 = m 52 1 := (by rw [mv_1, stm_ix _ _ _ (by decide)])
    exact ⟨(h.st (by decide)).st (by decide), by rw [e1]; exact h2, by rw [stm_eq, e1]; omega⟩)
  refine x_aload_n (i := 0) (pc' := 1) rfl rfl rfl rfl ?_
  refine x_iconst (i := 1) (pc' := 2) rfl rfl ?_
  refine m_putf (kz := 6) (i := 2) (pc' := 5) rfl rfl flX7_31 (sh52 G) (fun _ => rfl) rfl (Nat.le_of_ble_eq_true rfl) rfl rfl ?_
  refine x_aload_n (i := 3) (pc' := 6) rfl rfl rfl rfl ?_
  refine x_iconst (i := 4) (pc' := 7) rfl rfl ?_
  refine m_putf (kz := 2) (i := 5) (pc' := 10) rfl rfl flX7_19 (sh52 G) (fun _ => rfl) rfl (Nat.le_of_ble_eq_true rfl) rfl rfl ?_
  refine x_iconst (i := 6) (pc' := 11) rfl rfl ?_
  refine x_istore_n (L' := [some _, some _]) (i := 7) (pc' := 12) rfl rfl rfl rfl (by decide) rfl ?_
  exact pl_loop 60 0 _ (by omega) (by omega) t0 hQ
def nmb (m : Mem) (o s : Int) : Int := if s < m 55 o then m 56 (o * 6 + s) else -1
def lac (m : Mem) (o : Int) : Nat → Int → Int → Int
  | 0, _, _ => 0
  | k + 1, s, t => if ¬ (0 ≤ nmb m o s ∧ nmb m o s ≤ 5) ∨ ia (t / 2 ^ (nmb m o s).toNat) 1 = 1 then -2 else lac m o k (s + 1) (io t (1 * 2 ^ (nmb m o s).toNat))
def lam (m : Mem) (o : Int) : Mem := it (fun s (x : Mem) => stm x 7 s (nmb x o s)) 0 6 m
theorem lac_02 (m : Mem) (o : Int) : ∀ (k : Nat) (s t : Int), lac m o k s t = 0 ∨ lac m o k s t = -2
  | 0, _, _ => Or.inl rfl
  | k + 1, s, t => by
    unfold lac
    split
    · exact Or.inr rfl
    · exact lac_02 m o k _ _
theorem nmb_rg {m : Mem} (h : MR m) (o s : Int) : rg (nmb m o s) := by
  unfold nmb
  split
  · exact h _ _
  · decide
theorem la_second {G : GG} {m : Mem} {Q : Option Value → Mem → Prop} {o : Int} (hM : MR m) (ho : 0 ≤ m 52 6 ∧ m 52 6 ≤ 60) (ha : 0 ≤ o ∧ o < m 52 6) (hc : 0 ≤ m 55 o ∧ m 55 o ≤ 6) (hQ : Q (some (.int (J 0))) (lam m o)) : BW G 3 mX9_layAll Q 60 [some (.ref (G.2.2.2 1)), some (.ref (G.2.2.2 52)), some (.int (J (o))), none, some (.int (J (0))), none] [] m := by
  refine up_ind1 (P := fun (j : Int) (x : Mem) => BW G 3 mX9_layAll Q 60 [some (.ref (G.2.2.2 1)), some (.ref (G.2.2.2 52)), some (.int (J (o))), none, some (.int (J (j))), none] [] x) (fun (j : Int) (x : Mem) => stm x 7 j (nmb x o j)) (fun (j : Int) (x : Mem) => MR x ∧ x 52 = m 52 ∧ x 55 = m 55) (6) (0) (m) (by omega) (⟨hM, rfl, rfl⟩) (fun j x hj0 hj hi => ⟨hi.1.st (nmb_rg hi.1 _ _), (stm_ne _ _ _ (by decide)).trans hi.2.1, (stm_ne _ _ _ (by decide)).trans hi.2.2⟩) (fun j x hj0 hj hi hk => ?_) (fun hi => ?_)
  · have k1 := congrFun hi.2.1 6; have k2 := congrFun hi.2.2 o
    refine x_iload (i := 36) (pc' := 62) rfl rfl rfl ?_
    refine x_bipush (i := 37) (pc' := 64) rfl rfl (by decide) ?_
    refine x_icmpge (i := 38) (pc' := 67) (tgt := 87) rfl rfl (by decide) ⟨by omega, by omega⟩ ⟨by omega, by omega⟩ (fun e1 => by exfalso; omega) (fun e1 => ?_)
    refine x_aload_n (i := 39) (pc' := 68) rfl rfl rfl rfl ?_
    refine m_getf (i := 40) (pc' := 71) rfl rfl flX9_25 (sh1 G) rfl rfl ?_
    refine x_iload (i := 41) (pc' := 73) rfl rfl rfl ?_
    refine x_aload_n (i := 42) (pc' := 74) rfl rfl rfl rfl ?_
    refine x_iload_n (i := 43) (pc' := 75) rfl rfl rfl rfl ?_
    refine x_iload (i := 44) (pc' := 77) rfl rfl rfl ?_
    refine m_callV (i := 45) (pc' := 80) (av := [_, _]) (rest := [_, _]) rfl rfl (by decide) lX9_75 (sh52 G) rfl rfl rfl rfl rfl (Nat.le_of_ble_eq_true rfl) (Nat.le_refl _) (Nat.le_refl _) (s_X7_number (by omega) (by omega) (by omega) (by omega) ?_)
    dsimp only [psh]
    refine m_iast (i := 46) (pc' := 81) rfl rfl (sh7 G) (by decide) ⟨by omega, by omega⟩ ?_
    refine x_iinc (L' := [some _, some _, some _, none, some _, none]) (i := 47) (pc' := 84) rfl rfl rfl rfl (by decide) rfl ?_
    refine x_goto (i := 48) (pc' := 60) rfl (by decide) ?_
    (first | exact hk | (refine AW.le ?_ hk; simp [lvle]; done) | ((repeat' split at hk) <;> first | exact hk | (refine AW.le ?_ hk; simp [lvle]; done) | (exfalso; omega)))
  · skip
    refine x_iload (i := 36) (pc' := 62) rfl rfl rfl ?_
    refine x_bipush (i := 37) (pc' := 64) rfl rfl (by decide) ?_
    refine x_icmpge (i := 38) (pc' := 67) (tgt := 87) rfl rfl (by decide) ⟨by omega, by omega⟩ ⟨by omega, by omega⟩ (fun f1 => ?_) (fun f1 => by exfalso; omega)
    refine x_iconst (i := 49) (pc' := 88) rfl rfl ?_
    exact m_ireturn (i := 50) rfl rfl (hQ)
theorem la_first {G : GG} {m : Mem} {Q : Option Value → Mem → Prop} {o : Int} (hM : MR m) (ho : 0 ≤ m 52 6 ∧ m 52 6 ≤ 60) (ha : 0 ≤ o ∧ o < m 52 6) (hc : 0 ≤ m 55 o ∧ m 55 o ≤ 6) : ∀ (k : Nat) (s t : Int), s + k = 6 → 0 ≤ s → (0 ≤ t ∧ t < 64) → Q (some (.int (J (lac m o k s t)))) (if lac m o k s t = 0 then lam m o else m) → BW G 3 mX9_layAll Q 5 [some (.ref (G.2.2.2 1)), some (.ref (G.2.2.2 52)), some (.int (J (o))), some (.int (J (t))), some (.int (J (s))), none] [] m := by
  intro k
  induction k with
  | zero =>
    intro s t hk h0 ht hQ
    rw [show lac m o 0 s t = 0 from rfl, if_pos rfl] at hQ
    refine x_iload (i := 4) (pc' := 7) rfl rfl rfl ?_
    refine x_bipush (i := 5) (pc' := 9) rfl rfl (by decide) ?_
    refine x_icmpge (i := 6) (pc' := 12) (tgt := 57) rfl rfl (by decide) ⟨by omega, by omega⟩ ⟨by omega, by omega⟩ (fun c1 => ?_) (fun c1 => by exfalso; omega)
    refine x_iconst (i := 34) (pc' := 58) rfl rfl ?_
    refine x_istore (L' := [some _, some _, some _, some _, some _, none]) (i := 35) (pc' := 60) rfl rfl rfl (by decide) rfl ?_
    exact AW.le (by simp [lvle]) (la_second hM ho ha hc hQ)
  | succ k ih =>
    intro s t hk h0 ht hQ
    have hv := nmb_rg hM o s
    have e : (if s < m 55 o then m 56 (o * 6 + s) else -1) = nmb m o s := rfl
    by_cases hb : 0 ≤ nmb m o s ∧ nmb m o s ≤ 5
    · have e0 : (if 0 ≤ nmb m o s ∧ nmb m o s ≤ 5 then 1 else 0 : Int) = 1 := if_pos hb
      have hpw := pw5 (j := nmb m o s) hb
      have hd1 : 0 ≤ t / 2 ^ (nmb m o s).toNat := Int.ediv_nonneg (by omega) (by omega)
      have hia := ia_le (t / 2 ^ (nmb m o s).toNat) 1; have hia2 := ia_nn (t / 2 ^ (nmb m o s).toNat) 1
      have hio := io_lt 6 (a := t) (b := 1 * 2 ^ (nmb m o s).toNat) (by omega) (by omega); have hio2 := io_nn t (1 * 2 ^ (nmb m o s).toNat)
      unfold lac at hQ
      refine x_iload (i := 4) (pc' := 7) rfl rfl rfl ?_
      refine x_bipush (i := 5) (pc' := 9) rfl rfl (by decide) ?_
      refine x_icmpge (i := 6) (pc' := 12) (tgt := 57) rfl rfl (by decide) ⟨by omega, by omega⟩ ⟨by omega, by omega⟩ (fun c1 => by exfalso; omega) (fun c1 => ?_)
      refine x_aload_n (i := 7) (pc' := 13) rfl rfl rfl rfl ?_
      refine x_iload_n (i := 8) (pc' := 14) rfl rfl rfl rfl ?_
      refine x_iload (i := 9) (pc' := 16) rfl rfl rfl ?_
      refine m_callV (i := 10) (pc' := 19) (av := [_, _]) (rest := []) rfl rfl (by decide) lX9_75 (sh52 G) rfl rfl rfl rfl rfl (Nat.le_of_ble_eq_true rfl) (Nat.le_refl _) (Nat.le_refl _) (s_X7_number ho (by omega) (by omega) (by omega) ?_)
      dsimp only [psh]
      rw [e]
      refine x_istore (L' := [some _, some _, some _, some _, some _, some _]) (i := 11) (pc' := 21) rfl rfl rfl (by decide) rfl ?_
      refine x_iload (i := 12) (pc' := 23) rfl rfl rfl ?_
      refine x_iconst (i := 13) (pc' := 24) rfl rfl ?_
      refine x_iconst (i := 14) (pc' := 25) rfl rfl ?_
      refine m_callS (i := 15) (pc' := 28) (av := [_, _, _]) (rest := []) rfl rfl (by decide) lX9_64 rfl rfl (Nat.le_of_ble_eq_true rfl) (Nat.le_refl _) (Nat.le_refl _) (s_X11_isWithin (by omega) (by omega) (by omega) ?_)
      dsimp only [psh]
      refine x_ifeq (i := 16) (pc' := 31) (tgt := 41) rfl rfl (by decide) ⟨by omega, by omega⟩ (fun c2 => by exfalso; omega) (fun c2 => ?_)
      refine x_iload_n (i := 17) (pc' := 32) rfl rfl rfl rfl ?_
      refine x_iload (i := 18) (pc' := 34) rfl rfl rfl ?_
      refine x_ishr (i := 19) (pc' := 35) rfl rfl (by omega) (by omega) ?_
      refine x_iconst (i := 20) (pc' := 36) rfl rfl ?_
      refine x_iand (i := 21) (pc' := 37) rfl rfl (by omega) (by omega) ?_
      refine x_iconst (i := 22) (pc' := 38) rfl rfl ?_
      refine x_icmpne (i := 23) (pc' := 41) (tgt := 44) rfl rfl (by decide) ⟨by omega, by omega⟩ ⟨by omega, by omega⟩ (fun c3 => ?_) (fun c3 => ?_)
      · skip
        refine x_iload_n (i := 26) (pc' := 45) rfl rfl rfl rfl ?_
        refine x_iconst (i := 27) (pc' := 46) rfl rfl ?_
        refine x_iload (i := 28) (pc' := 48) rfl rfl rfl ?_
        refine x_ishl (i := 29) (pc' := 49) rfl rfl (by omega) (by omega) ?_
        refine x_ior (i := 30) (pc' := 50) rfl rfl (by omega) (by omega) ?_
        refine x_istore_n (L' := [some _, some _, some _, some _, some _, some _]) (i := 31) (pc' := 51) rfl rfl rfl rfl (by decide) rfl ?_
        refine x_iinc (L' := [some _, some _, some _, some _, some _, some _]) (i := 32) (pc' := 54) rfl rfl rfl rfl (by decide) rfl ?_
        refine x_goto (i := 33) (pc' := 5) rfl (by decide) ?_
        rw [if_neg (by omega)] at hQ
        exact AW.le (by simp [lvle]) (ih _ _ (by omega) (by omega) (by omega) hQ)
      · skip
        refine x_bipush (i := 24) (pc' := 43) rfl rfl (by decide) ?_
        exact m_ireturn (i := 25) rfl rfl (by rw [if_pos (by omega), if_neg (by decide)] at hQ; exact hQ)
    · have e0 : (if 0 ≤ nmb m o s ∧ nmb m o s ≤ 5 then 1 else 0 : Int) = 0 := if_neg hb
      unfold lac at hQ
      rw [if_pos (Or.inl hb), if_neg (by decide)] at hQ
      refine x_iload (i := 4) (pc' := 7) rfl rfl rfl ?_
      refine x_bipush (i := 5) (pc' := 9) rfl rfl (by decide) ?_
      refine x_icmpge (i := 6) (pc' := 12) (tgt := 57) rfl rfl (by decide) ⟨by omega, by omega⟩ ⟨by omega, by omega⟩ (fun c1 => by exfalso; omega) (fun c1 => ?_)
      refine x_aload_n (i := 7) (pc' := 13) rfl rfl rfl rfl ?_
      refine x_iload_n (i := 8) (pc' := 14) rfl rfl rfl rfl ?_
      refine x_iload (i := 9) (pc' := 16) rfl rfl rfl ?_
      refine m_callV (i := 10) (pc' := 19) (av := [_, _]) (rest := []) rfl rfl (by decide) lX9_75 (sh52 G) rfl rfl rfl rfl rfl (Nat.le_of_ble_eq_true rfl) (Nat.le_refl _) (Nat.le_refl _) (s_X7_number ho (by omega) (by omega) (by omega) ?_)
      dsimp only [psh]
      rw [e]
      refine x_istore (L' := [some _, some _, some _, some _, some _, some _]) (i := 11) (pc' := 21) rfl rfl rfl (by decide) rfl ?_
      refine x_iload (i := 12) (pc' := 23) rfl rfl rfl ?_
      refine x_iconst (i := 13) (pc' := 24) rfl rfl ?_
      refine x_iconst (i := 14) (pc' := 25) rfl rfl ?_
      refine m_callS (i := 15) (pc' := 28) (av := [_, _, _]) (rest := []) rfl rfl (by decide) lX9_64 rfl rfl (Nat.le_of_ble_eq_true rfl) (Nat.le_refl _) (Nat.le_refl _) (s_X11_isWithin (by omega) (by omega) (by omega) ?_)
      dsimp only [psh]
      refine x_ifeq (i := 16) (pc' := 31) (tgt := 41) rfl rfl (by decide) ⟨by omega, by omega⟩ (fun c2 => ?_) (fun c2 => by exfalso; omega)
      refine x_bipush (i := 24) (pc' := 43) rfl rfl (by decide) ?_
      exact m_ireturn (i := 25) rfl rfl (hQ)
theorem s_X9_layAll {G : GG} {m : Mem} {Q : Option Value → Mem → Prop} {o : Int} (hM : MR m) (ho : 0 ≤ m 52 6 ∧ m 52 6 ≤ 60) (ha : 0 ≤ o ∧ o < m 52 6) (hc : 0 ≤ m 55 o ∧ m 55 o ≤ 6) (hQ : Q (some (.int (J (lac m o 6 0 0)))) (if lac m o 6 0 0 = 0 then lam m o else m)) : CM G 3 mX9_layAll [.ref (G.2.2.2 1), .ref (G.2.2.2 52), .int (J (o))] m Q := by
  refine CM.of dkX9_layAll (Or.inl rfl) [some _, some _, some _, none, none, none] rfl (Nat.le_of_ble_eq_true rfl) ?_
  refine x_iconst (i := 0) (pc' := 1) rfl rfl ?_
  refine x_istore_n (L' := [some _, some _, some _, some _, none, none]) (i := 1) (pc' := 2) rfl rfl rfl rfl (by decide) rfl ?_
  refine x_iconst (i := 2) (pc' := 3) rfl rfl ?_
  refine x_istore (L' := [some _, some _, some _, some _, some _, none]) (i := 3) (pc' := 5) rfl rfl rfl (by decide) rfl ?_
  exact la_first hM ho ha hc 6 0 0 (by omega) (by omega) (by omega) hQ
