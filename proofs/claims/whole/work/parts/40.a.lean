theorem s_X12_in {G : GG} {m : Mem} {Q : Option Value → Mem → Prop} {a b c : Int} (ha : rl a) (hb : rl b) (hc : rl c) (hQ : Q (some (.int (J (if b ≤ a ∧ a ≤ c then 1 else 0)))) m) : CM G 0 mX12_in [.long (JL (a)), .long (JL (b)), .long (JL (c))] m Q := by
  refine CM.of dkX12_in (Or.inl rfl) [some _, none, some _, none, some _, none] rfl (Nat.le_of_ble_eq_true rfl) ?_
  refine x_lload_n (i := 0) (pc' := 1) rfl rfl rfl rfl ?_
  refine x_lload_n (i := 1) (pc' := 2) rfl rfl rfl rfl ?_
  refine x_lcmp (i := 2) (pc' := 3) rfl rfl (by first | assumption | ((repeat' split) <;> omega)) (by first | assumption | ((repeat' split) <;> omega)) ?_
  refine x_iflt (i := 3) (pc' := 6) (tgt := 17) rfl rfl (by decide) (by first | assumption | ((repeat' split) <;> omega)) (fun c1 => ?_) (fun c1 => ?_)
  · skip
    refine x_iconst (i := 10) (pc' := 18) rfl rfl ?_
    exact m_zreturn (i := 11) rfl rfl (by omega) (by (repeat' split at hQ) <;> (repeat' split at *) <;> first | exact hQ | (exfalso; omega))
  · skip
    refine x_lload_n (i := 4) (pc' := 7) rfl rfl rfl rfl ?_
    refine x_lload (i := 5) (pc' := 9) rfl rfl rfl ?_
    refine x_lcmp (i := 6) (pc' := 10) rfl rfl (by first | assumption | ((repeat' split) <;> omega)) (by first | assumption | ((repeat' split) <;> omega)) ?_
    refine x_ifgt (i := 7) (pc' := 13) (tgt := 17) rfl rfl (by decide) (by first | assumption | ((repeat' split) <;> omega)) (fun c2 => ?_) (fun c2 => ?_)
    · skip
      refine x_iconst (i := 10) (pc' := 18) rfl rfl ?_
      exact m_zreturn (i := 11) rfl rfl (by omega) (by (repeat' split at hQ) <;> (repeat' split at *) <;> first | exact hQ | (exfalso; omega))
    · skip
      refine x_iconst (i := 8) (pc' := 14) rfl rfl ?_
      refine x_goto (i := 9) (pc' := 18) rfl (by decide) ?_
      exact m_zreturn (i := 11) rfl rfl (by omega) (by (repeat' split at hQ) <;> (repeat' split at *) <;> first | exact hQ | (exfalso; omega))
theorem s_X12_has {G : GG} {m : Mem} {Q : Option Value → Mem → Prop} {a b : Int} (ha : 0 ≤ a ∧ a < 2147483648) (hb : 0 ≤ b ∧ b < 32) (hQ : Q (some (.int (J (if ia (a / 2 ^ b.toNat) 1 = 1 then 1 else 0)))) m) : CM G 0 mX12_has [.int (J (a)), .int (J (b))] m Q := by
  refine CM.of dkX12_has (Or.inl rfl) [some _, some _] rfl (Nat.le_of_ble_eq_true rfl) ?_
  have hd1 : 0 ≤ a / 2 ^ b.toNat := Int.ediv_nonneg ha.1 (Int.le_of_lt (Int.pow_pos (by omega)))
  have hia := ia_le (a / 2 ^ b.toNat) 1; have hia2 := ia_nn (a / 2 ^ b.toNat) 1
  refine x_iload_n (i := 0) (pc' := 1) rfl rfl rfl rfl ?_
  refine x_iload_n (i := 1) (pc' := 2) rfl rfl rfl rfl ?_
  refine x_ishr (i := 2) (pc' := 3) rfl rfl (by omega) (by omega) ?_
  refine x_iconst (i := 3) (pc' := 4) rfl rfl ?_
  refine x_iand (i := 4) (pc' := 5) rfl rfl (by omega) (by omega) ?_
  refine x_iconst (i := 5) (pc' := 6) rfl rfl ?_
  refine x_icmpne (i := 6) (pc' := 9) (tgt := 13) rfl rfl (by decide) ⟨by omega, by omega⟩ ⟨by omega, by omega⟩ (fun c1 => ?_) (fun c1 => ?_)
  · skip
    refine x_iconst (i := 9) (pc' := 14) rfl rfl ?_
    exact m_zreturn (i := 10) rfl rfl (by omega) (by (repeat' split at hQ) <;> first | exact hQ | (exfalso; omega))
  · skip
    refine x_iconst (i := 7) (pc' := 10) rfl rfl ?_
    refine x_goto (i := 8) (pc' := 14) rfl (by decide) ?_
    exact m_zreturn (i := 10) rfl rfl (by omega) (by (repeat' split at hQ) <;> first | exact hQ | (exfalso; omega))
theorem s_X12_off {G : GG} {m : Mem} {Q : Option Value → Mem → Prop} {a b : Int} (ha : rg a) (hb : rg b) (hQ : Q (some (.int (J (ab (a - b))))) m) : CM G 0 mX12_off [.int (J (a)), .int (J (b))] m Q := by
  refine CM.of dkX12_off (Or.inl rfl) [some _, some _] rfl (Nat.le_of_ble_eq_true rfl) ?_
  refine x_iload_n (i := 0) (pc' := 1) rfl rfl rfl rfl ?_
  refine x_iload_n (i := 1) (pc' := 2) rfl rfl rfl rfl ?_
  refine x_icmpge (i := 2) (pc' := 5) (tgt := 11) rfl rfl (by decide) (by assumption) (by assumption) (fun c1 => ?_) (fun c1 => ?_)
  · skip
    refine x_iload_n (i := 7) (pc' := 12) rfl rfl rfl rfl ?_
    refine x_iload_n (i := 8) (pc' := 13) rfl rfl rfl rfl ?_
    refine x_isub (i := 9) (pc' := 14) rfl rfl ?_
    exact m_ireturn (i := 10) rfl rfl (by unfold ab at hQ; (repeat' split at hQ) <;> first | (rw [show b - a = -(a - b) by omega]; exact hQ) | exact hQ | (exfalso; omega) | (rw [show a - b = 0 by omega] at *; exact hQ))
  · skip
    refine x_iload_n (i := 3) (pc' := 6) rfl rfl rfl rfl ?_
    refine x_iload_n (i := 4) (pc' := 7) rfl rfl rfl rfl ?_
    refine x_isub (i := 5) (pc' := 8) rfl rfl ?_
    refine x_goto (i := 6) (pc' := 14) rfl (by decide) ?_
    exact m_ireturn (i := 10) rfl rfl (by unfold ab at hQ; (repeat' split at hQ) <;> first | (rw [show b - a = -(a - b) by omega]; exact hQ) | exact hQ | (exfalso; omega) | (rw [show a - b = 0 by omega] at *; exact hQ))
def rfm (m : Mem) (r : Int) : Mem := stm m 78 (-2 - r) (m 78 (-2 - r) + 1)
def mcp (m : Mem) (a b : Int) : Mem := it (fun k (x : Mem) => stm x 77 (b + k) (x 77 (a + k))) 0 140 m
def md0 (m : Mem) : Mem := it (fun k (x : Mem) => stm x 77 (140 + k) (x 77 (280 + k))) 0 560 m
def md1 (m : Mem) : Mem := if m 76 1 = 5 then stm (md0 m) 76 1 (md0 m 76 1 - 1) else m
def mdm (m : Mem) : Mem := stm (mcp (md1 m) 0 (140 + 140 * md1 m 76 1)) 76 1 (mcp (md1 m) 0 (140 + 140 * md1 m 76 1) 76 1 + 1)
theorem mcp_ne (m : Mem) (a b : Int) {q : Nat} (h : q ≠ 77) : mcp m a b q = m q := it_8 (fun i x => stm_ne _ _ _ h) _ _ _
theorem md0_ne (m : Mem) {q : Nat} (h : q ≠ 77) : md0 m q = m q := it_8 (fun i x => stm_ne _ _ _ h) _ _ _
theorem MR_it {f : Int → Mem → Mem} (h : ∀ i x, MR x → MR (f i x)) (n : Nat) (j : Int) (x : Mem) (hx : MR x) : MR (it f j n x) := it_I n j x (fun i y _ _ hy => h i y hy) hx
def NM (m : Mem) : Prop := 0 ≤ m 77 0 ∧ m 77 0 ≤ 16
def CMd (m : Mem) : Prop := 0 ≤ m 77 1 ∧ m 77 1 ≤ 16
theorem s_X12_refuses {G : GG} {m : Mem} {Q : Option Value → Mem → Prop} {a : Int} (ha : -4 ≤ a ∧ a ≤ -2) (hQ : Q (some (.int (J (a)))) (rfm m a)) : CM G 0 mX12_refuses [.ref (G.2.2.2 76), .int (J (a))] m Q := by
  refine CM.of dkX12_refuses (Or.inl rfl) [some _, some _] rfl (Nat.le_of_ble_eq_true rfl) ?_
  refine x_aload_n (i := 0) (pc' := 1) rfl rfl rfl rfl ?_
  refine m_getf (i := 1) (pc' := 4) rfl rfl flX12_13 (sh76 G) rfl rfl ?_
  refine x_bipush (i := 2) (pc' := 6) rfl rfl (by decide) ?_
  refine x_iload_n (i := 3) (pc' := 7) rfl rfl rfl rfl ?_
  refine x_isub (i := 4) (pc' := 8) rfl rfl ?_
  refine x_dup2 (i := 5) (pc' := 9) rfl rfl rfl rfl ?_
  refine m_iald (i := 6) (pc' := 10) rfl rfl (sh78 G) (by decide) ⟨by omega, by omega⟩ ?_
  refine x_iconst (i := 7) (pc' := 11) rfl rfl ?_
  refine x_iadd (i := 8) (pc' := 12) rfl rfl ?_
  refine m_iast (i := 9) (pc' := 13) rfl rfl (sh78 G) (by decide) ⟨by omega, by omega⟩ ?_
  refine x_iload_n (i := 10) (pc' := 14) rfl rfl rfl rfl ?_
  exact m_ireturn (i := 11) rfl rfl (hQ)
theorem s_X12_copy {G : GG} {m : Mem} {Q : Option Value → Mem → Prop} {a b : Int} (ha : 0 ≤ a ∧ a ≤ 980) (hb : 0 ≤ b ∧ b ≤ 980) (hQ : Q none (mcp m a b)) : CM G 0 mX12_copy [.ref (G.2.2.2 76), .int (J (a)), .int (J (b))] m Q := by
  refine CM.of dkX12_copy (Or.inl rfl) [some _, some _, some _, none] rfl (Nat.le_of_ble_eq_true rfl) ?_
  refine x_iconst (i := 0) (pc' := 1) rfl rfl ?_
  refine x_istore_n (L' := [some _, some _, some _, some _]) (i := 1) (pc' := 2) rfl rfl rfl rfl (by decide) rfl ?_
  skip
  refine up_ind0 (P := fun (j : Int) (x : Mem) => BW G 0 mX12_copy Q 2 [some (.ref (G.2.2.2 76)), some (.int (J (a))), some (.int (J (b))), some (.int (J (j)))] [] x) (fun (j : Int) (x : Mem) => stm x 77 (b + j) (x 77 (a + j))) (140) (0) (m) (by omega) (fun j x hj0 hj hk => ?_) ?_
  · skip
    refine x_iload_n (i := 2) (pc' := 3) rfl rfl rfl rfl ?_
    refine x_sipush (i := 3) (pc' := 6) rfl rfl (by decide) ?_
    refine x_icmpge (i := 4) (pc' := 9) (tgt := 31) rfl rfl (by decide) ⟨by omega, by omega⟩ ⟨by omega, by omega⟩ (fun c1 => by exfalso; omega) (fun c1 => ?_)
    refine x_aload_n (i := 5) (pc' := 10) rfl rfl rfl rfl ?_
    refine m_getf (i := 6) (pc' := 13) rfl rfl flX12_7 (sh76 G) rfl rfl ?_
    refine x_iload_n (i := 7) (pc' := 14) rfl rfl rfl rfl ?_
    refine x_iload_n (i := 8) (pc' := 15) rfl rfl rfl rfl ?_
    refine x_iadd (i := 9) (pc' := 16) rfl rfl ?_
    refine x_aload_n (i := 10) (pc' := 17) rfl rfl rfl rfl ?_
    refine m_getf (i := 11) (pc' := 20) rfl rfl flX12_7 (sh76 G) rfl rfl ?_
    refine x_iload_n (i := 12) (pc' := 21) rfl rfl rfl rfl ?_
    refine x_iload_n (i := 13) (pc' := 22) rfl rfl rfl rfl ?_
    refine x_iadd (i := 14) (pc' := 23) rfl rfl ?_
    refine m_iald (i := 15) (pc' := 24) rfl rfl (sh77 G) (by decide) ⟨by omega, by omega⟩ ?_
    refine m_iast (i := 16) (pc' := 25) rfl rfl (sh77 G) (by decide) ⟨by omega, by omega⟩ ?_
    refine x_iinc (L' := [some _, some _, some _, some _]) (i := 17) (pc' := 28) rfl rfl rfl rfl (by decide) rfl ?_
    refine x_goto (i := 18) (pc' := 2) rfl (by decide) ?_
    (first | exact hk | (refine AW.le ?_ hk; simp [lvle]; done) | ((repeat' split at hk) <;> first | exact hk | (refine AW.le ?_ hk; simp [lvle]; done) | (exfalso; omega)))
  · skip
    refine x_iload_n (i := 2) (pc' := 3) rfl rfl rfl rfl ?_
    refine x_sipush (i := 3) (pc' := 6) rfl rfl (by decide) ?_
    refine x_icmpge (i := 4) (pc' := 9) (tgt := 31) rfl rfl (by decide) ⟨by omega, by omega⟩ ⟨by omega, by omega⟩ (fun c1 => ?_) (fun c1 => by exfalso; omega)
    exact m_return (i := 19) rfl rfl (hQ)
theorem mi_end {G : GG} {x : Mem} {Q : Option Value → Mem → Prop} {L1 : Option Value} (hQ : Q none (stm x 76 1 (x 76 1 + 1))) : BW G 1 mX12_minds Q 70 [some (.ref (G.2.2.2 76)), L1] [] x := by
  refine x_aload_n (i := 38) (pc' := 71) rfl rfl rfl rfl ?_
  refine x_dup (i := 39) (pc' := 72) rfl rfl rfl ?_
  refine m_getf (i := 40) (pc' := 75) rfl rfl flX12_34 (sh76 G) rfl rfl ?_
  refine x_iconst (i := 41) (pc' := 76) rfl rfl ?_
  refine x_iadd (i := 42) (pc' := 77) rfl rfl ?_
  refine m_putf (kz := 1) (i := 43) (pc' := 80) rfl rfl flX12_34 (sh76 G) (fun _ => rfl) rfl (Nat.le_of_ble_eq_true rfl) rfl rfl ?_
  exact m_return (i := 44) rfl rfl (hQ)
theorem mi_tail {G : GG} {m : Mem} {Q : Option Value → Mem → Prop} {L1 : Option Value} (hs : 0 ≤ m 76 1 ∧ m 76 1 ≤ 4) (hQ : Q none (stm (mcp m 0 (140 + 140 * m 76 1)) 76 1 (mcp m 0 (140 + 140 * m 76 1) 76 1 + 1))) : BW G 1 mX12_minds Q 53 [some (.ref (G.2.2.2 76)), L1] [] m := by
  refine x_aload_n (i := 29) (pc' := 54) rfl rfl rfl rfl ?_
  refine x_iconst (i := 30) (pc' := 55) rfl rfl ?_
  refine x_sipush (i := 31) (pc' := 58) rfl rfl (by decide) ?_
  refine x_sipush (i := 32) (pc' := 61) rfl rfl (by decide) ?_
  refine x_aload_n (i := 33) (pc' := 62) rfl rfl rfl rfl ?_
  refine m_getf (i := 34) (pc' := 65) rfl rfl flX12_34 (sh76 G) rfl rfl ?_
  refine x_imul (i := 35) (pc' := 66) rfl rfl ?_
  refine x_iadd (i := 36) (pc' := 67) rfl rfl ?_
  refine m_callV (i := 37) (pc' := 70) (av := [_, _]) (rest := []) rfl rfl (by decide) lX12_38 (sh76 G) rfl rfl rfl rfl rfl (Nat.le_of_ble_eq_true rfl) (Nat.le_refl _) (Nat.le_refl _) (s_X12_copy (by omega) (by omega) ?_)
  dsimp only [psh]
  exact mi_end hQ
theorem mi_loop {G : GG} {m : Mem} {Q : Option Value → Mem → Prop} (h : BW G 1 mX12_minds Q 43 [some (.ref (G.2.2.2 76)), some (.int (J 560))] [] (md0 m)) : BW G 1 mX12_minds Q 10 [some (.ref (G.2.2.2 76)), some (.int (J 0))] [] m := by
  refine up_ind0 (P := fun (j : Int) (x : Mem) => BW G 1 mX12_minds Q 10 [some (.ref (G.2.2.2 76)), some (.int (J (j)))] [] x) (fun (j : Int) (x : Mem) => stm x 77 (140 + j) (x 77 (280 + j))) (560) (0) (m) (by omega) (fun j x hj0 hj hk => ?_) ?_
  · skip
    refine x_iload_n (i := 6) (pc' := 11) rfl rfl rfl rfl ?_
    refine x_sipush (i := 7) (pc' := 14) rfl rfl (by decide) ?_
    refine x_icmpge (i := 8) (pc' := 17) (tgt := 43) rfl rfl (by decide) ⟨by omega, by omega⟩ ⟨by omega, by omega⟩ (fun e1 => by exfalso; omega) (fun e1 => ?_)
    refine x_aload_n (i := 9) (pc' := 18) rfl rfl rfl rfl ?_
    refine m_getf (i := 10) (pc' := 21) rfl rfl flX12_7 (sh76 G) rfl rfl ?_
    refine x_sipush (i := 11) (pc' := 24) rfl rfl (by decide) ?_
    refine x_iload_n (i := 12) (pc' := 25) rfl rfl rfl rfl ?_
    refine x_iadd (i := 13) (pc' := 26) rfl rfl ?_
    refine x_aload_n (i := 14) (pc' := 27) rfl rfl rfl rfl ?_
    refine m_getf (i := 15) (pc' := 30) rfl rfl flX12_7 (sh76 G) rfl rfl ?_
    refine x_sipush (i := 16) (pc' := 33) rfl rfl (by decide) ?_
    refine x_iload_n (i := 17) (pc' := 34) rfl rfl rfl rfl ?_
    refine x_iadd (i := 18) (pc' := 35) rfl rfl ?_
    refine m_iald (i := 19) (pc' := 36) rfl rfl (sh77 G) (by decide) ⟨by omega, by omega⟩ ?_
    refine m_iast (i := 20) (pc' := 37) rfl rfl (sh77 G) (by decide) ⟨by omega, by omega⟩ ?_
    refine x_iinc (L' := [some _, some _]) (i := 21) (pc' := 40) rfl rfl rfl rfl (by decide) rfl ?_
    refine x_goto (i := 22) (pc' := 10) rfl (by decide) ?_
    (first | exact hk | (refine AW.le ?_ hk; simp [lvle]; done) | ((repeat' split at hk) <;> first | exact hk | (refine AW.le ?_ hk; simp [lvle]; done) | (exfalso; omega)))
  · skip
    refine x_iload_n (i := 6) (pc' := 11) rfl rfl rfl rfl ?_
    refine x_sipush (i := 7) (pc' := 14) rfl rfl (by decide) ?_
    refine x_icmpge (i := 8) (pc' := 17) (tgt := 43) rfl rfl (by decide) ⟨by omega, by omega⟩ ⟨by omega, by omega⟩ (fun f1 => ?_) (fun f1 => by exfalso; omega)
    rw [show ((560 : Int) - 0).toNat = 560 from rfl]
    exact h
theorem mi_five {G : GG} {m y : Mem} {Q : Option Value → Mem → Prop} (e76 : y 76 = m 76) (hs : m 76 1 = 5) (hQ : Q none (stm (mcp (stm y 76 1 (y 76 1 - 1)) 0 (140 + 140 * stm y 76 1 (y 76 1 - 1) 76 1)) 76 1 (mcp (stm y 76 1 (y 76 1 - 1)) 0 (140 + 140 * stm y 76 1 (y 76 1 - 1) 76 1) 76 1 + 1))) : BW G 1 mX12_minds Q 43 [some (.ref (G.2.2.2 76)), some (.int (J 560))] [] y := by
  have e8 : stm y 76 1 (y 76 1 - 1) 76 1 = m 76 1 - 1 := (by rw [stm_eq, e76])
  refine x_aload_n (i := 23) (pc' := 44) rfl rfl rfl rfl ?_
  refine x_dup (i := 24) (pc' := 45) rfl rfl rfl ?_
  refine m_getf (i := 25) (pc' := 48) rfl rfl flX12_34 (sh76 G) rfl rfl ?_
  refine x_iconst (i := 26) (pc' := 49) rfl rfl ?_
  refine x_isub (i := 27) (pc' := 50) rfl rfl ?_
  refine m_putf (kz := 1) (i := 28) (pc' := 53) rfl rfl flX12_34 (sh76 G) (fun _ => rfl) rfl (Nat.le_of_ble_eq_true rfl) rfl rfl ?_
  exact mi_tail (m := stm y 76 1 (y 76 1 - 1)) (by rw [e8]; omega) hQ
theorem mdm_5 {m : Mem} (h : m 76 1 = 5) : mdm m = stm (mcp (stm (md0 m) 76 1 (md0 m 76 1 - 1)) 0 (140 + 140 * stm (md0 m) 76 1 (md0 m 76 1 - 1) 76 1)) 76 1 (mcp (stm (md0 m) 76 1 (md0 m 76 1 - 1)) 0 (140 + 140 * stm (md0 m) 76 1 (md0 m 76 1 - 1) 76 1) 76 1 + 1) := by
  unfold mdm md1
  rw [if_pos h]
theorem mdm_n {m : Mem} (h : ¬ m 76 1 = 5) : mdm m = stm (mcp m 0 (140 + 140 * m 76 1)) 76 1 (mcp m 0 (140 + 140 * m 76 1) 76 1 + 1) := by
  unfold mdm md1
  rw [if_neg h]
theorem s_X12_minds {G : GG} {m : Mem} {Q : Option Value → Mem → Prop} (hs : 0 ≤ m 76 1 ∧ m 76 1 ≤ 5) (hQ : Q none (mdm m)) : CM G 1 mX12_minds [.ref (G.2.2.2 76)] m Q := by
  refine CM.of dkX12_minds (Or.inl rfl) [some _, none] rfl (Nat.le_of_ble_eq_true rfl) ?_
  by_cases h5 : m 76 1 = 5
  · rw [mdm_5 h5] at hQ
    have T := mi_loop (G := G) (mi_five (md0_ne m (by decide)) h5 hQ)
    clear hQ
    refine x_aload_n (i := 0) (pc' := 1) rfl rfl rfl rfl ?_
    refine m_getf (i := 1) (pc' := 4) rfl rfl flX12_34 (sh76 G) rfl rfl ?_
    refine x_iconst (i := 2) (pc' := 5) rfl rfl ?_
    refine x_icmpne (i := 3) (pc' := 8) (tgt := 53) rfl rfl (by decide) ⟨by omega, by omega⟩ ⟨by omega, by omega⟩ (fun c1 => by exfalso; omega) (fun c1 => ?_)
    refine x_iconst (i := 4) (pc' := 9) rfl rfl ?_
    refine x_istore_n (L' := [some _, some _]) (i := 5) (pc' := 10) rfl rfl rfl rfl (by decide) rfl ?_
    exact T
  · rw [mdm_n h5] at hQ
    have T := mi_tail (G := G) (L1 := none) (by omega) hQ
    clear hQ
    refine x_aload_n (i := 0) (pc' := 1) rfl rfl rfl rfl ?_
    refine m_getf (i := 1) (pc' := 4) rfl rfl flX12_34 (sh76 G) rfl rfl ?_
    refine x_iconst (i := 2) (pc' := 5) rfl rfl ?_
    refine x_icmpne (i := 3) (pc' := 8) (tgt := 53) rfl rfl (by decide) ⟨by omega, by omega⟩ ⟨by omega, by omega⟩ (fun c1 => ?_) (fun c1 => by exfalso; omega)
    exact T
theorem s_X12_isSign {G : GG} {m : Mem} {Q : Option Value → Mem → Prop} {a : Int} (hn : NM m) (ha : rg a) (hQ : Q (some (.int (J (if 0 ≤ a ∧ a < m 77 0 then 1 else 0)))) m) : CM G 1 mX12_isSign [.ref (G.2.2.2 76), .int (J (a))] m Q := by
  refine CM.of dkX12_isSign (Or.inl rfl) [some _, some _] rfl (Nat.le_of_ble_eq_true rfl) ?_
  have hn0 := hn.1; have hn1 := hn.2
  refine x_iload_n (i := 0) (pc' := 1) rfl rfl rfl rfl ?_
  refine x_i2l (i := 1) (pc' := 2) rfl rfl (by omega) ?_
  refine x_lconst (a := 0) (i := 2) (pc' := 3) rfl rfl rfl ?_
  refine x_aload_n (i := 3) (pc' := 4) rfl rfl rfl rfl ?_
  refine m_getf (i := 4) (pc' := 7) rfl rfl flX12_7 (sh76 G) rfl rfl ?_
  refine x_iconst (i := 5) (pc' := 8) rfl rfl ?_
  refine m_iald (i := 6) (pc' := 9) rfl rfl (sh77 G) (by decide) ⟨by omega, by omega⟩ ?_
  refine x_iconst (i := 7) (pc' := 10) rfl rfl ?_
  refine x_isub (i := 8) (pc' := 11) rfl rfl ?_
  refine x_i2l (i := 9) (pc' := 12) rfl rfl (by omega) ?_
  refine m_callS (i := 10) (pc' := 15) (av := [_, _, _]) (rest := []) rfl rfl (by decide) lX12_42 rfl rfl (Nat.le_of_ble_eq_true rfl) (Nat.le_refl _) (Nat.le_refl _) (s_X12_in (by omega) (by omega) (by omega) ?_)
  dsimp only [psh]
  exact m_zreturn (i := 11) rfl rfl (by (repeat' split) <;> omega) (by (repeat' split at hQ) <;> (repeat' split at *) <;> first | exact hQ | (exfalso; omega))
theorem s_X12_part {G : GG} {m : Mem} {Q : Option Value → Mem → Prop} {a b : Int} (ha : 0 ≤ a ∧ a ≤ 15) (hb : 0 ≤ b ∧ b ≤ 4) (hQ : Q (some (.int (J (m 77 (2 + 5 * a + b))))) m) : CM G 0 mX12_part [.ref (G.2.2.2 76), .int (J (a)), .int (J (b))] m Q := by
  refine CM.of dkX12_part (Or.inl rfl) [some _, some _, some _] rfl (Nat.le_of_ble_eq_true rfl) ?_
  refine x_aload_n (i := 0) (pc' := 1) rfl rfl rfl rfl ?_
  refine m_getf (i := 1) (pc' := 4) rfl rfl flX12_7 (sh76 G) rfl rfl ?_
  refine x_iconst (i := 2) (pc' := 5) rfl rfl ?_
  refine x_iconst (i := 3) (pc' := 6) rfl rfl ?_
  refine x_iload_n (i := 4) (pc' := 7) rfl rfl rfl rfl ?_
  refine x_imul (i := 5) (pc' := 8) rfl rfl ?_
  refine x_iadd (i := 6) (pc' := 9) rfl rfl ?_
  refine x_iload_n (i := 7) (pc' := 10) rfl rfl rfl rfl ?_
  refine x_iadd (i := 8) (pc' := 11) rfl rfl ?_
  refine m_iald (i := 9) (pc' := 12) rfl rfl (sh77 G) (by decide) ⟨by omega, by omega⟩ ?_
  exact m_ireturn (i := 10) rfl rfl (hQ)
theorem s_X12_isPart {G : GG} {m : Mem} {Q : Option Value → Mem → Prop} {a : Int} (ha : rg a) (hQ : Q (some (.int (J (if 0 ≤ a ∧ a ≤ 7 then 1 else 0)))) m) : CM G 1 mX12_isPart [.int (J (a))] m Q := by
  refine CM.of dkX12_isPart (Or.inl rfl) [some _] rfl (Nat.le_of_ble_eq_true rfl) ?_
  refine x_iload_n (i := 0) (pc' := 1) rfl rfl rfl rfl ?_
  refine x_i2l (i := 1) (pc' := 2) rfl rfl (by omega) ?_
  refine x_lconst (a := 0) (i := 2) (pc' := 3) rfl rfl rfl ?_
  refine x_ldc2 (i := 3) (pc' := 6) rfl rfl kX12_46 ?_
  refine m_callS (i := 4) (pc' := 9) (av := [_, _, _]) (rest := []) rfl rfl (by decide) lX12_42 rfl rfl (Nat.le_of_ble_eq_true rfl) (Nat.le_refl _) (Nat.le_refl _) (s_X12_in (by omega) (by omega) (by omega) ?_)
  dsimp only [psh]
  exact m_zreturn (i := 5) rfl rfl (by (repeat' split) <;> omega) (hQ)
theorem s_X12_areParts {G : GG} {m : Mem} {Q : Option Value → Mem → Prop} {a b c d : Int} (h1 : rg a) (h2 : rg b) (h3 : rg c) (h4 : rg d) (hQ : Q (some (.int (J (if (0 ≤ a ∧ a ≤ 7) ∧ (0 ≤ b ∧ b ≤ 7) ∧ (0 ≤ c ∧ c ≤ 7) ∧ (0 ≤ d ∧ d ≤ 7) then 1 else 0)))) m) : CM G 2 mX12_areParts [.int (J (a)), .int (J (b)), .int (J (c)), .int (J (d))] m Q := by
  refine CM.of dkX12_areParts (Or.inl rfl) [some _, some _, some _, some _] rfl (Nat.le_of_ble_eq_true rfl) ?_
  refine x_iload_n (i := 0) (pc' := 1) rfl rfl rfl rfl ?_
  refine m_callS (i := 1) (pc' := 4) (av := [_]) (rest := []) rfl rfl (by decide) lX12_48 rfl rfl (Nat.le_of_ble_eq_true rfl) (Nat.le_refl _) (Nat.le_refl _) (s_X12_isPart (by assumption) ?_)
  dsimp only [psh]
  refine x_ifeq (i := 2) (pc' := 7) (tgt := 32) rfl rfl (by decide) (by (repeat' split) <;> omega) (fun c1 => ?_) (fun c1 => ?_)
  · skip
    refine x_iconst (i := 14) (pc' := 33) rfl rfl ?_
    exact m_zreturn (i := 15) rfl rfl (by omega) (by (repeat' split at hQ) <;> (repeat' split at *) <;> first | exact hQ | (exfalso; omega))
  · skip
    refine x_iload_n (i := 3) (pc' := 8) rfl rfl rfl rfl ?_
    refine m_callS (i := 4) (pc' := 11) (av := [_]) (rest := []) rfl rfl (by decide) lX12_48 rfl rfl (Nat.le_of_ble_eq_true rfl) (Nat.le_refl _) (Nat.le_refl _) (s_X12_isPart (by assumption) ?_)
    dsimp only [psh]
    refine x_ifeq (i := 5) (pc' := 14) (tgt := 32) rfl rfl (by decide) (by (repeat' split) <;> omega) (fun c2 => ?_) (fun c2 => ?_)
    · skip
      refine x_iconst (i := 14) (pc' := 33) rfl rfl ?_
      exact m_zreturn (i := 15) rfl rfl (by omega) (by (repeat' split at hQ) <;> (repeat' split at *) <;> first | exact hQ | (exfalso; omega))
    · skip
      refine x_iload_n (i := 6) (pc' := 15) rfl rfl rfl rfl ?_
      refine m_callS (i := 7) (pc' := 18) (av := [_]) (rest := []) rfl rfl (by decide) lX12_48 rfl rfl (Nat.le_of_ble_eq_true rfl) (Nat.le_refl _) (Nat.le_refl _) (s_X12_isPart (by assumption) ?_)
      dsimp only [psh]
      refine x_ifeq (i := 8) (pc' := 21) (tgt := 32) rfl rfl (by decide) (by (repeat' split) <;> omega) (fun c3 => ?_) (fun c3 => ?_)
      · skip
        refine x_iconst (i := 14) (pc' := 33) rfl rfl ?_
        exact m_zreturn (i := 15) rfl rfl (by omega) (by (repeat' split at hQ) <;> (repeat' split at *) <;> first | exact hQ | (exfalso; omega))
      · skip
        refine x_iload_n (i := 9) (pc' := 22) rfl rfl rfl rfl ?_
        refine m_callS (i := 10) (pc' := 25) (av := [_]) (rest := []) rfl rfl (by decide) lX12_48 rfl rfl (Nat.le_of_ble_eq_true rfl) (Nat.le_refl _) (Nat.le_refl _) (s_X12_isPart (by assumption) ?_)
        dsimp only [psh]
        refine x_ifeq (i := 11) (pc' := 28) (tgt := 32) rfl rfl (by decide) (by (repeat' split) <;> omega) (fun c4 => ?_) (fun c4 => ?_)
        · skip
          refine x_iconst (i := 14) (pc' := 33) rfl rfl ?_
          exact m_zreturn (i := 15) rfl rfl (by omega) (by (repeat' split at hQ) <;> (repeat' split at *) <;> first | exact hQ | (exfalso; omega))
        · skip
          refine x_iconst (i := 12) (pc' := 29) rfl rfl ?_
          refine x_goto (i := 13) (pc' := 33) rfl (by decide) ?_
          exact m_zreturn (i := 15) rfl rfl (by omega) (by (repeat' split at hQ) <;> (repeat' split at *) <;> first | exact hQ | (exfalso; omega))
def sgo (m : Mem) (h p q f b : Int) : Nat → Int → Int
  | 0, _ => -1
  | k + 1, j => if ¬ j = b ∧ m 77 (2 + 5 * j + 0) = h ∧ m 77 (2 + 5 * j + 1) = p ∧ m 77 (2 + 5 * j + 2) = q ∧ m 77 (2 + 5 * j + 3) = f then j else sgo m h p q f b k (j + 1)
theorem sgo_rg (m : Mem) (h p q f b : Int) : ∀ (k : Nat) (j : Int), 0 ≤ j → -1 ≤ sgo m h p q f b k j ∧ sgo m h p q f b k j < j + k ∨ sgo m h p q f b k j = -1
  | 0, _, _ => Or.inr rfl
  | k + 1, j, hj => by
    unfold sgo
    split
    · left; omega
    · rcases sgo_rg m h p q f b k (j + 1) (by omega) with h1 | h1
      · left; omega
      · right; exact h1
def cns (m : Mem) (h p q f s : Int) : Int := if ((0 ≤ h ∧ h ≤ 7) ∧ (0 ≤ p ∧ p ≤ 7) ∧ (0 ≤ q ∧ q ≤ 7) ∧ (0 ≤ f ∧ f ≤ 7)) ∧ (0 ≤ s ∧ s ≤ 3) then (if sgo m h p q f (-1) (m 77 0).toNat 0 = -1 then (if m 77 0 = 16 then -4 else 0) else -3) else -2
def adm (m : Mem) (h p q f s : Int) : Mem := stm (stm (stm (stm (stm (stm m 77 (2 + 5 * m 77 0) h) 77 (2 + 5 * m 77 0 + 1) p) 77 (2 + 5 * m 77 0 + 2) q) 77 (2 + 5 * m 77 0 + 3) f) 77 (2 + 5 * m 77 0 + 4) s) 77 0 (m 77 0 + 1)
theorem so_loop {G : GG} {m : Mem} {Q : Option Value → Mem → Prop} {h p q f b : Int} (hM : MR m) (hn : NM m) (hh : rg h) (hp : rg p) (hq : rg q) (hf : rg f) (hb : rg b) : ∀ (k : Nat) (j : Int), j + k = m 77 0 → 0 ≤ j → Q (some (.int (J (sgo m h p q f b k j)))) m → BW G 1 mX12_signOf Q 3 [some (.ref (G.2.2.2 76)), some (.int (J (h))), some (.int (J (p))), some (.int (J (q))), some (.int (J (f))), some (.int (J (b))), some (.int (J (j)))] [] m := by
  have hn0 := hn.1; have hn1 := hn.2
  intro k
  induction k with
  | zero =>
    intro j hk h0 hQ
    refine x_iload (i := 2) (pc' := 5) rfl rfl rfl ?_
    refine x_aload_n (i := 3) (pc' := 6) rfl rfl rfl rfl ?_
    refine m_getf (i := 4) (pc' := 9) rfl rfl flX12_7 (sh76 G) rfl rfl ?_
    refine x_iconst (i := 5) (pc' := 10) rfl rfl ?_
    refine m_iald (i := 6) (pc' := 11) rfl rfl (sh77 G) (by decide) ⟨by omega, by omega⟩ ?_
    refine x_icmpge (i := 7) (pc' := 14) (tgt := 75) rfl rfl (by decide) ⟨by omega, by omega⟩ ⟨by omega, by omega⟩ (fun c1 => ?_) (fun c1 => by exfalso; omega)
    refine x_iconst (i := 39) (pc' := 76) rfl rfl ?_
    exact m_ireturn (i := 40) rfl rfl (hQ)
  | succ k ih =>
    intro j hk h0 hQ
    unfold sgo at hQ
    refine x_iload (i := 2) (pc' := 5) rfl rfl rfl ?_
    refine x_aload_n (i := 3) (pc' := 6) rfl rfl rfl rfl ?_
    refine m_getf (i := 4) (pc' := 9) rfl rfl flX12_7 (sh76 G) rfl rfl ?_
    refine x_iconst (i := 5) (pc' := 10) rfl rfl ?_
    refine m_iald (i := 6) (pc' := 11) rfl rfl (sh77 G) (by decide) ⟨by omega, by omega⟩ ?_
    refine x_icmpge (i := 7) (pc' := 14) (tgt := 75) rfl rfl (by decide) (by first | omega | exact hM _ _) (by first | omega | exact hM _ _) (fun c1 => by exfalso; omega) (fun c1 => ?_)
    refine x_iload (i := 8) (pc' := 16) rfl rfl rfl ?_
    refine x_iload (i := 9) (pc' := 18) rfl rfl rfl ?_
    refine x_icmpeq (i := 10) (pc' := 21) (tgt := 69) rfl rfl (by decide) (by first | omega | exact hM _ _) (by first | omega | exact hM _ _) (fun c2 => ?_) (fun c2 => ?_)
    · skip
      refine x_iinc (L' := [some _, some _, some _, some _, some _, some _, some _]) (i := 37) (pc' := 72) rfl rfl rfl rfl (by decide) rfl ?_
      refine x_goto (i := 38) (pc' := 3) rfl (by decide) ?_
      rw [if_neg (by omega)] at hQ
      exact ih (j + 1) (by omega) (by omega) hQ
    · skip
      refine x_aload_n (i := 11) (pc' := 22) rfl rfl rfl rfl ?_
      refine x_iload (i := 12) (pc' := 24) rfl rfl rfl ?_
      refine x_iconst (i := 13) (pc' := 25) rfl rfl ?_
      refine m_callV (i := 14) (pc' := 28) (av := [_, _]) (rest := []) rfl rfl (by decide) lX12_52 (sh76 G) rfl rfl rfl rfl rfl (Nat.le_of_ble_eq_true rfl) (Nat.le_refl _) (Nat.le_refl _) (s_X12_part (by omega) (by omega) ?_)
      dsimp only [psh]
      refine x_iload_n (i := 15) (pc' := 29) rfl rfl rfl rfl ?_
      refine x_icmpne (i := 16) (pc' := 32) (tgt := 69) rfl rfl (by decide) (by first | omega | exact hM _ _) (by first | omega | exact hM _ _) (fun c3 => ?_) (fun c3 => ?_)
      · skip
        refine x_iinc (L' := [some _, some _, some _, some _, some _, some _, some _]) (i := 37) (pc' := 72) rfl rfl rfl rfl (by decide) rfl ?_
        refine x_goto (i := 38) (pc' := 3) rfl (by decide) ?_
        rw [if_neg (by omega)] at hQ
        exact ih (j + 1) (by omega) (by omega) hQ
      · skip
        refine x_aload_n (i := 17) (pc' := 33) rfl rfl rfl rfl ?_
        refine x_iload (i := 18) (pc' := 35) rfl rfl rfl ?_
        refine x_iconst (i := 19) (pc' := 36) rfl rfl ?_
        refine m_callV (i := 20) (pc' := 39) (av := [_, _]) (rest := []) rfl rfl (by decide) lX12_52 (sh76 G) rfl rfl rfl rfl rfl (Nat.le_of_ble_eq_true rfl) (Nat.le_refl _) (Nat.le_refl _) (s_X12_part (by omega) (by omega) ?_)
        dsimp only [psh]
        refine x_iload_n (i := 21) (pc' := 40) rfl rfl rfl rfl ?_
        refine x_icmpne (i := 22) (pc' := 43) (tgt := 69) rfl rfl (by decide) (by first | omega | exact hM _ _) (by first | omega | exact hM _ _) (fun c4 => ?_) (fun c4 => ?_)
        · skip
          refine x_iinc (L' := [some _, some _, some _, some _, some _, some _, some _]) (i := 37) (pc' := 72) rfl rfl rfl rfl (by decide) rfl ?_
          refine x_goto (i := 38) (pc' := 3) rfl (by decide) ?_
          rw [if_neg (by omega)] at hQ
          exact ih (j + 1) (by omega) (by omega) hQ
        · skip
          refine x_aload_n (i := 23) (pc' := 44) rfl rfl rfl rfl ?_
          refine x_iload (i := 24) (pc' := 46) rfl rfl rfl ?_
          refine x_iconst (i := 25) (pc' := 47) rfl rfl ?_
          refine m_callV (i := 26) (pc' := 50) (av := [_, _]) (rest := []) rfl rfl (by decide) lX12_52 (sh76 G) rfl rfl rfl rfl rfl (Nat.le_of_ble_eq_true rfl) (Nat.le_refl _) (Nat.le_refl _) (s_X12_part (by omega) (by omega) ?_)
          dsimp only [psh]
          refine x_iload_n (i := 27) (pc' := 51) rfl rfl rfl rfl ?_
          refine x_icmpne (i := 28) (pc' := 54) (tgt := 69) rfl rfl (by decide) (by first | omega | exact hM _ _) (by first | omega | exact hM _ _) (fun c5 => ?_) (fun c5 => ?_)
          · skip
            refine x_iinc (L' := [some _, some _, some _, some _, some _, some _, some _]) (i := 37) (pc' := 72) rfl rfl rfl rfl (by decide) rfl ?_
            refine x_goto (i := 38) (pc' := 3) rfl (by decide) ?_
            rw [if_neg (by omega)] at hQ
            exact ih (j + 1) (by omega) (by omega) hQ
          · skip
            refine x_aload_n (i := 29) (pc' := 55) rfl rfl rfl rfl ?_
            refine x_iload (i := 30) (pc' := 57) rfl rfl rfl ?_
            refine x_iconst (i := 31) (pc' := 58) rfl rfl ?_
            refine m_callV (i := 32) (pc' := 61) (av := [_, _]) (rest := []) rfl rfl (by decide) lX12_52 (sh76 G) rfl rfl rfl rfl rfl (Nat.le_of_ble_eq_true rfl) (Nat.le_refl _) (Nat.le_refl _) (s_X12_part (by omega) (by omega) ?_)
            dsimp only [psh]
            refine x_iload (i := 33) (pc' := 63) rfl rfl rfl ?_
            refine x_icmpne (i := 34) (pc' := 66) (tgt := 69) rfl rfl (by decide) (by first | omega | exact hM _ _) (by first | omega | exact hM _ _) (fun c6 => ?_) (fun c6 => ?_)
            · skip
              refine x_iinc (L' := [some _, some _, some _, some _, some _, some _, some _]) (i := 37) (pc' := 72) rfl rfl rfl rfl (by decide) rfl ?_
              refine x_goto (i := 38) (pc' := 3) rfl (by decide) ?_
              rw [if_neg (by omega)] at hQ
              exact ih (j + 1) (by omega) (by omega) hQ
            · skip
              refine x_iload (i := 35) (pc' := 68) rfl rfl rfl ?_
              exact m_ireturn (i := 36) rfl rfl (by rw [if_pos (by omega)] at hQ; exact hQ)
theorem s_X12_signOf {G : GG} {m : Mem} {Q : Option Value → Mem → Prop} {h p q f b : Int} (hM : MR m) (hn : NM m) (h1 : rg h) (h2 : rg p) (h3 : rg q) (h4 : rg f) (h5 : rg b) (hQ : Q (some (.int (J (sgo m h p q f b (m 77 0).toNat 0)))) m) : CM G 1 mX12_signOf [.ref (G.2.2.2 76), .int (J (h)), .int (J (p)), .int (J (q)), .int (J (f)), .int (J (b))] m Q := by
  refine CM.of dkX12_signOf (Or.inl rfl) [some _, some _, some _, some _, some _, some _, none] rfl (Nat.le_of_ble_eq_true rfl) ?_
  have hn0 := hn.1; have hn1 := hn.2
  refine x_iconst (i := 0) (pc' := 1) rfl rfl ?_
  refine x_istore (L' := [some _, some _, some _, some _, some _, some _, some _]) (i := 1) (pc' := 3) rfl rfl rfl (by decide) rfl ?_
  exact so_loop hM hn h1 h2 h3 h4 h5 _ 0 (by omega) (by omega) hQ
theorem s_X12_canSign {G : GG} {m : Mem} {Q : Option Value → Mem → Prop} {h p q f s : Int} (hM : MR m) (hn : NM m) (h1 : rg h) (h2 : rg p) (h3 : rg q) (h4 : rg f) (h5 : rg s) (hQ : Q (some (.int (J (cns m h p q f s)))) m) : CM G 3 mX12_canSign [.ref (G.2.2.2 76), .int (J (h)), .int (J (p)), .int (J (q)), .int (J (f)), .int (J (s))] m Q := by
  refine CM.of dkX12_canSign (Or.inl rfl) [some _, some _, some _, some _, some _, some _] rfl (Nat.le_of_ble_eq_true rfl) ?_
  have hn0 := hn.1; have hn1 := hn.2
  have hsg := sgo_rg m h p q f (-1) (m 77 0).toNat 0 (by omega)
  refine x_iload_n (i := 0) (pc' := 1) rfl rfl rfl rfl ?_
  refine x_iload_n (i := 1) (pc' := 2) rfl rfl rfl rfl ?_
  refine x_iload_n (i := 2) (pc' := 3) rfl rfl rfl rfl ?_
  refine x_iload (i := 3) (pc' := 5) rfl rfl rfl ?_
  refine m_callS (i := 4) (pc' := 8) (av := [_, _, _, _]) (rest := []) rfl rfl (by decide) lX12_56 rfl rfl (Nat.le_of_ble_eq_true rfl) (Nat.le_refl _) (Nat.le_refl _) (s_X12_areParts h1 h2 h3 h4 ?_)
  dsimp only [psh]
  refine x_ifeq (i := 5) (pc' := 11) (tgt := 24) rfl rfl (by decide) (by (repeat' split) <;> omega) (fun c1 => ?_) (fun c1 => ?_)
  · skip
    refine x_bipush (i := 12) (pc' := 26) rfl rfl (by decide) ?_
    exact m_ireturn (i := 13) rfl rfl (by unfold cns at hQ; (repeat' split at hQ) <;> (repeat' split at *) <;> first | exact hQ | (exfalso; omega))
  · skip
    refine x_iload (i := 6) (pc' := 13) rfl rfl rfl ?_
    refine x_i2l (i := 7) (pc' := 14) rfl rfl (by (repeat' split) <;> omega) ?_
    refine x_lconst (a := 0) (i := 8) (pc' := 15) rfl rfl rfl ?_
    refine x_ldc2 (i := 9) (pc' := 18) rfl rfl kX12_60 ?_
    refine m_callS (i := 10) (pc' := 21) (av := [_, _, _]) (rest := []) rfl rfl (by decide) lX12_42 rfl rfl (Nat.le_of_ble_eq_true rfl) (Nat.le_refl _) (Nat.le_refl _) (s_X12_in (by omega) (by omega) (by omega) ?_)
    dsimp only [psh]
    refine x_ifne (i := 11) (pc' := 24) (tgt := 27) rfl rfl (by decide) (by (repeat' split) <;> omega) (fun c2 => ?_) (fun c2 => ?_)
    · skip
      refine x_aload_n (i := 14) (pc' := 28) rfl rfl rfl rfl ?_
      refine x_iload_n (i := 15) (pc' := 29) rfl rfl rfl rfl ?_
      refine x_iload_n (i := 16) (pc' := 30) rfl rfl rfl rfl ?_
      refine x_iload_n (i := 17) (pc' := 31) rfl rfl rfl rfl ?_
      refine x_iload (i := 18) (pc' := 33) rfl rfl rfl ?_
      refine x_iconst (i := 19) (pc' := 34) rfl rfl ?_
      refine m_callV (i := 20) (pc' := 37) (av := [_, _, _, _, _]) (rest := []) rfl rfl (by decide) lX12_62 (sh76 G) rfl rfl rfl rfl rfl (Nat.le_of_ble_eq_true rfl) (Nat.le_refl _) (Nat.le_refl _) (s_X12_signOf hM hn h1 h2 h3 h4 (by omega) ?_)
      dsimp only [psh]
      refine x_iconst (i := 21) (pc' := 38) rfl rfl ?_
      refine x_icmpeq (i := 22) (pc' := 41) (tgt := 46) rfl rfl (by decide) (by (repeat' split) <;> omega) (by (repeat' split) <;> omega) (fun c3 => ?_) (fun c3 => ?_)
      · skip
        refine x_aload_n (i := 25) (pc' := 47) rfl rfl rfl rfl ?_
        refine m_getf (i := 26) (pc' := 50) rfl rfl flX12_7 (sh76 G) rfl rfl ?_
        refine x_iconst (i := 27) (pc' := 51) rfl rfl ?_
        refine m_iald (i := 28) (pc' := 52) rfl rfl (sh77 G) (by decide) ⟨by omega, by omega⟩ ?_
        refine x_bipush (i := 29) (pc' := 54) rfl rfl (by decide) ?_
        refine x_icmpne (i := 30) (pc' := 57) (tgt := 62) rfl rfl (by decide) (by (repeat' split) <;> omega) (by (repeat' split) <;> omega) (fun c4 => ?_) (fun c4 => ?_)
        · skip
          refine x_iconst (i := 33) (pc' := 63) rfl rfl ?_
          exact m_ireturn (i := 34) rfl rfl (by unfold cns at hQ; (repeat' split at hQ) <;> (repeat' split at *) <;> first | exact hQ | (exfalso; omega))
        · skip
          refine x_bipush (i := 31) (pc' := 59) rfl rfl (by decide) ?_
          refine x_goto (i := 32) (pc' := 63) rfl (by decide) ?_
          exact m_ireturn (i := 34) rfl rfl (by unfold cns at hQ; (repeat' split at hQ) <;> (repeat' split at *) <;> first | exact hQ | (exfalso; omega))
      · skip
        refine x_bipush (i := 23) (pc' := 43) rfl rfl (by decide) ?_
        refine x_goto (i := 24) (pc' := 63) rfl (by decide) ?_
        exact m_ireturn (i := 34) rfl rfl (by unfold cns at hQ; (repeat' split at hQ) <;> (repeat' split at *) <;> first | exact hQ | (exfalso; omega))
    · skip
      refine x_bipush (i := 12) (pc' := 26) rfl rfl (by decide) ?_
      exact m_ireturn (i := 13) rfl rfl (by unfold cns at hQ; (repeat' split at hQ) <;> (repeat' split at *) <;> first | exact hQ | (exfalso; omega))
theorem s_X12_adds {G : GG} {m : Mem} {Q : Option Value → Mem → Prop} {h p q f s : Int} (hn : NM m) (hn2 : m 77 0 < 16) (hQ : Q (some (.int (J (m 77 0)))) (adm m h p q f s)) : CM G 0 mX12_adds [.ref (G.2.2.2 76), .int (J (h)), .int (J (p)), .int (J (q)), .int (J (f)), .int (J (s))] m Q := by
  refine CM.of dkX12_adds (Or.inl rfl) [some _, some _, some _, some _, some _, some _, none] rfl (Nat.le_of_ble_eq_true rfl) ?_
  have hn0 := hn.1; have hn1 := hn.2
  refine x_iconst (i := 0) (pc' := 1) rfl rfl ?_
  refine x_iconst (i := 1) (pc' := 2) rfl rfl ?_
  refine x_aload_n (i := 2) (pc' := 3) rfl rfl rfl rfl ?_
  refine m_getf (i := 3) (pc' := 6) rfl rfl flX12_7 (sh76 G) rfl rfl ?_
  refine x_iconst (i := 4) (pc' := 7) rfl rfl ?_
  refine m_iald (i := 5) (pc' := 8) rfl rfl (sh77 G) (by decide) ⟨by omega, by omega⟩ ?_
  refine x_imul (i := 6) (pc' := 9) rfl rfl ?_
  refine x_iadd (i := 7) (pc' := 10) rfl rfl ?_
  refine x_istore (L' := [some _, some _, some _, some _, some _, some _, some _]) (i := 8) (pc' := 12) rfl rfl rfl (by decide) rfl ?_
  refine x_aload_n (i := 9) (pc' := 13) rfl rfl rfl rfl ?_
  refine m_getf (i := 10) (pc' := 16) rfl rfl flX12_7 (sh76 G) rfl rfl ?_
  refine x_iload (i := 11) (pc' := 18) rfl rfl rfl ?_
  refine x_iload_n (i := 12) (pc' := 19) rfl rfl rfl rfl ?_
  refine m_iast (i := 13) (pc' := 20) rfl rfl (sh77 G) (by decide) ⟨by omega, by omega⟩ ?_
  refine x_aload_n (i := 14) (pc' := 21) rfl rfl rfl rfl ?_
  refine m_getf (i := 15) (pc' := 24) rfl rfl flX12_7 (sh76 G) rfl rfl ?_
  refine x_iload (i := 16) (pc' := 26) rfl rfl rfl ?_
  refine x_iconst (i := 17) (pc' := 27) rfl rfl ?_
  refine x_iadd (i := 18) (pc' := 28) rfl rfl ?_
  refine x_iload_n (i := 19) (pc' := 29) rfl rfl rfl rfl ?_
  refine m_iast (i := 20) (pc' := 30) rfl rfl (sh77 G) (by decide) ⟨by omega, by omega⟩ ?_
  refine x_aload_n (i := 21) (pc' := 31) rfl rfl rfl rfl ?_
  refine m_getf (i := 22) (pc' := 34) rfl rfl flX12_7 (sh76 G) rfl rfl ?_
  refine x_iload (i := 23) (pc' := 36) rfl rfl rfl ?_
  refine x_iconst (i := 24) (pc' := 37) rfl rfl ?_
  refine x_iadd (i := 25) (pc' := 38) rfl rfl ?_
  refine x_iload_n (i := 26) (pc' := 39) rfl rfl rfl rfl ?_
  refine m_iast (i := 27) (pc' := 40) rfl rfl (sh77 G) (by decide) ⟨by omega, by omega⟩ ?_
  refine x_aload_n (i := 28) (pc' := 41) rfl rfl rfl rfl ?_
  refine m_getf (i := 29) (pc' := 44) rfl rfl flX12_7 (sh76 G) rfl rfl ?_
  refine x_iload (i := 30) (pc' := 46) rfl rfl rfl ?_
  refine x_iconst (i := 31) (pc' := 47) rfl rfl ?_
  refine x_iadd (i := 32) (pc' := 48) rfl rfl ?_
  refine x_iload (i := 33) (pc' := 50) rfl rfl rfl ?_
  refine m_iast (i := 34) (pc' := 51) rfl rfl (sh77 G) (by decide) ⟨by omega, by omega⟩ ?_
  refine x_aload_n (i := 35) (pc' := 52) rfl rfl rfl rfl ?_
  refine m_getf (i := 36) (pc' := 55) rfl rfl flX12_7 (sh76 G) rfl rfl ?_
  refine x_iload (i := 37) (pc' := 57) rfl rfl rfl ?_
  refine x_iconst (i := 38) (pc' := 58) rfl rfl ?_
  refine x_iadd (i := 39) (pc' := 59) rfl rfl ?_
  refine x_iload (i := 40) (pc' := 61) rfl rfl rfl ?_
  refine m_iast (i := 41) (pc' := 62) rfl rfl (sh77 G) (by decide) ⟨by omega, by omega⟩ ?_
  refine x_aload_n (i := 42) (pc' := 63) rfl rfl rfl rfl ?_
  refine m_getf (i := 43) (pc' := 66) rfl rfl flX12_7 (sh76 G) rfl rfl ?_
  refine x_iconst (i := 44) (pc' := 67) rfl rfl ?_
  refine x_dup2 (i := 45) (pc' := 68) rfl rfl rfl rfl ?_
  refine m_iald (i := 46) (pc' := 69) rfl rfl (sh77 G) (by decide) ⟨by omega, by omega⟩ ?_
  rw [stm_ix _ _ _ (by omega), stm_ix _ _ _ (by omega), stm_ix _ _ _ (by omega), stm_ix _ _ _ (by omega), stm_ix _ _ _ (by omega)]
  refine x_iconst (i := 47) (pc' := 70) rfl rfl ?_
  refine x_iadd (i := 48) (pc' := 71) rfl rfl ?_
  refine m_iast (i := 49) (pc' := 72) rfl rfl (sh77 G) (by decide) ⟨by omega, by omega⟩ ?_
  refine x_aload_n (i := 50) (pc' := 73) rfl rfl rfl rfl ?_
  refine m_getf (i := 51) (pc' := 76) rfl rfl flX12_7 (sh76 G) rfl rfl ?_
  refine x_iconst (i := 52) (pc' := 77) rfl rfl ?_
  refine m_iald (i := 53) (pc' := 78) rfl rfl (sh77 G) (by decide) ⟨by omega, by omega⟩ ?_
  rw [stm_eq]
  refine x_iconst (i := 54) (pc' := 79) rfl rfl ?_
  refine x_isub (i := 55) (pc' := 80) rfl rfl ?_
  exact m_ireturn (i := 56) rfl rfl (by rw [show m 77 0 + 1 - 1 = m 77 0 by omega]; exact hQ)
