def las (m : Mem) (a : Int) : Int := it (fun s x => io x (if 0 ≤ m 84 (a + s) ∧ m 84 (a + s) ≤ 5 then 1 * 2 ^ (m 84 (a + s)).toNat else 0)) 0 6 0
theorem las_le (m : Mem) (a : Int) : 0 ≤ las m a ∧ las m a < 64 := by
  refine it_I (I := fun x : Int => 0 ≤ x ∧ x < 64) _ _ _ (fun i y _ _ hy => ?_) (by decide)
  refine ⟨io_nn _ _, io_lt 6 hy ?_⟩
  split
  · next h => have := pw5 h; omega
  · decide
def lcm_ (m : Mem) (a : Int) : Mem := it (fun s (x : Mem) => stm x 77 (134 + s) (x 84 (a + s))) 0 6 m
def lar (m : Mem) (a : Int) : Int := if las m a = 63 then 1 else 0
def lax_ (m : Mem) (a : Int) : Mem := if las m a = 63 then lcm_ m a else m
theorem la_two {G : GG} {Q : Option Value → Mem → Prop} {x : Mem} {a : Int} (ha : 0 ≤ a ∧ a ≤ 354) (hQ : Q (some (.int (J 1))) (lcm_ x a)) : BW G 1 mX12_laysAll Q 54 [some (.ref (G.2.2.2 76)), some (.int (J (a))), some (.int (J (63))), some (.int (J (0)))] [] x := by
  refine up_ind0 (P := fun (s : Int) (y : Mem) => BW G 1 mX12_laysAll Q 54 [some (.ref (G.2.2.2 76)), some (.int (J (a))), some (.int (J (63))), some (.int (J (s)))] [] y) (fun (s : Int) (y : Mem) => stm y 77 (134 + s) (y 84 (a + s))) (6) (0) (x) (by omega) (fun s y hj0 hj hk => ?_) ?_
  · skip
    refine x_iload_n (i := 35) (pc' := 55) rfl rfl rfl rfl ?_
    refine x_bipush (i := 36) (pc' := 57) rfl rfl (by decide) ?_
    refine x_icmpge (i := 37) (pc' := 60) (tgt := 90) rfl rfl (by decide) ⟨by omega, by omega⟩ ⟨by omega, by omega⟩ (fun c1 => by exfalso; omega) (fun c1 => ?_)
    refine x_iload_n (i := 38) (pc' := 61) rfl rfl rfl rfl ?_
    refine x_bipush (i := 39) (pc' := 63) rfl rfl (by decide) ?_
    refine x_icmpne (i := 40) (pc' := 66) (tgt := 90) rfl rfl (by decide) ⟨by omega, by omega⟩ ⟨by omega, by omega⟩ (fun c2 => by exfalso; omega) (fun c2 => ?_)
    refine x_aload_n (i := 41) (pc' := 67) rfl rfl rfl rfl ?_
    refine m_getf (i := 42) (pc' := 70) rfl rfl flX12_7 (sh76 G) rfl rfl ?_
    refine x_sipush (i := 43) (pc' := 73) rfl rfl (by decide) ?_
    refine x_iload_n (i := 44) (pc' := 74) rfl rfl rfl rfl ?_
    refine x_iadd (i := 45) (pc' := 75) rfl rfl ?_
    refine x_aload_n (i := 46) (pc' := 76) rfl rfl rfl rfl ?_
    refine m_getf (i := 47) (pc' := 79) rfl rfl flX12_31 (sh76 G) rfl rfl ?_
    refine x_iload_n (i := 48) (pc' := 80) rfl rfl rfl rfl ?_
    refine x_iload_n (i := 49) (pc' := 81) rfl rfl rfl rfl ?_
    refine x_iadd (i := 50) (pc' := 82) rfl rfl ?_
    refine m_iald (i := 51) (pc' := 83) rfl rfl (sh84 G) (by decide) ⟨by omega, by omega⟩ ?_
    refine m_iast (i := 52) (pc' := 84) rfl rfl (sh77 G) (by decide) ⟨by omega, by omega⟩ ?_
    refine x_iinc (L' := [some _, some _, some _, some _]) (i := 53) (pc' := 87) rfl rfl rfl rfl (by decide) rfl ?_
    refine x_goto (i := 54) (pc' := 54) rfl (by decide) ?_
    (first | exact hk | (refine AW.le ?_ hk; simp [lvle]; done) | ((repeat' split at hk) <;> first | exact hk | (refine AW.le ?_ hk; simp [lvle]; done) | (exfalso; omega)))
  · skip
    refine x_iload_n (i := 35) (pc' := 55) rfl rfl rfl rfl ?_
    refine x_bipush (i := 36) (pc' := 57) rfl rfl (by decide) ?_
    refine x_icmpge (i := 37) (pc' := 60) (tgt := 90) rfl rfl (by decide) ⟨by omega, by omega⟩ ⟨by omega, by omega⟩ (fun c1 => ?_) (fun c1 => by exfalso; omega)
    refine x_iload_n (i := 55) (pc' := 91) rfl rfl rfl rfl ?_
    refine x_bipush (i := 56) (pc' := 93) rfl rfl (by decide) ?_
    refine x_icmpne (i := 57) (pc' := 96) (tgt := 100) rfl rfl (by decide) ⟨by omega, by omega⟩ ⟨by omega, by omega⟩ (fun c2 => by exfalso; omega) (fun c2 => ?_)
    refine x_iconst (i := 58) (pc' := 97) rfl rfl ?_
    refine x_goto (i := 59) (pc' := 101) rfl (by decide) ?_
    exact m_zreturn (i := 61) rfl rfl (by omega) (hQ)
theorem s_X12_laysAll {G : GG} {m : Mem} {Q : Option Value → Mem → Prop} {a : Int} (hM : MR m) (ha : 0 ≤ a ∧ a ≤ 354) (hQ : Q (some (.int (J (lar m a)))) (lax_ m a)) : CM G 1 mX12_laysAll [.ref (G.2.2.2 76), .int (J (a))] m Q := by
  refine CM.of dkX12_laysAll (Or.inl rfl) [some _, some _, none, none] rfl (Nat.le_of_ble_eq_true rfl) ?_
  have hls := las_le m a
  refine x_iconst (i := 0) (pc' := 1) rfl rfl ?_
  refine x_istore_n (L' := [some _, some _, some _, none]) (i := 1) (pc' := 2) rfl rfl rfl rfl (by decide) rfl ?_
  refine x_iconst (i := 2) (pc' := 3) rfl rfl ?_
  refine x_istore_n (L' := [some _, some _, some _, some _]) (i := 3) (pc' := 4) rfl rfl rfl rfl (by decide) rfl ?_
  skip
  refine up_ind1 (P := fun (s : Int) (x : Int) => BW G 1 mX12_laysAll Q 4 [some (.ref (G.2.2.2 76)), some (.int (J (a))), some (.int (J (x))), some (.int (J (s)))] [] m) (fun (s : Int) (x : Int) => io x (if 0 ≤ m 84 (a + s) ∧ m 84 (a + s) ≤ 5 then 1 * 2 ^ (m 84 (a + s)).toNat else 0)) (fun (s : Int) (x : Int) => 0 ≤ x) (6) (0) (0) (by omega) (by decide) (fun s x hj0 hj hi => io_nn _ _) (fun s x hj0 hj hi hk => ?_) (fun hi => ?_)
  · have hr := hM 84 (a + s)
    refine x_iload_n (i := 4) (pc' := 5) rfl rfl rfl rfl ?_
    refine x_bipush (i := 5) (pc' := 7) rfl rfl (by decide) ?_
    refine x_icmpge (i := 6) (pc' := 10) (tgt := 52) rfl rfl (by decide) (by first | omega | ((repeat' split) <;> omega)) (by first | omega | ((repeat' split) <;> omega)) (fun e1 => by exfalso; omega) (fun e1 => ?_)
    refine x_iload_n (i := 7) (pc' := 11) rfl rfl rfl rfl ?_
    refine x_aload_n (i := 8) (pc' := 12) rfl rfl rfl rfl ?_
    refine m_getf (i := 9) (pc' := 15) rfl rfl flX12_31 (sh76 G) rfl rfl ?_
    refine x_iload_n (i := 10) (pc' := 16) rfl rfl rfl rfl ?_
    refine x_iload_n (i := 11) (pc' := 17) rfl rfl rfl rfl ?_
    refine x_iadd (i := 12) (pc' := 18) rfl rfl ?_
    refine m_iald (i := 13) (pc' := 19) rfl rfl (sh84 G) (by decide) ⟨by first | omega | (exact Int.mul_nonneg (by omega) (Int.le_of_lt (Int.pow_pos (by omega)))) | ((repeat' split at *) <;> omega), by first | omega | (exact Int.mul_nonneg (by omega) (Int.le_of_lt (Int.pow_pos (by omega)))) | ((repeat' split at *) <;> omega)⟩ ?_
    refine x_i2l (i := 14) (pc' := 20) rfl rfl (by first | omega | ((repeat' split) <;> omega)) ?_
    refine x_lconst (a := 0) (i := 15) (pc' := 21) rfl rfl rfl ?_
    refine x_ldc2 (i := 16) (pc' := 24) rfl rfl kX12_93 ?_
    refine m_callS (i := 17) (pc' := 27) (av := [_, _, _]) (rest := [_]) rfl rfl (by decide) lX12_42 rfl rfl (Nat.le_of_ble_eq_true rfl) (Nat.le_refl _) (Nat.le_refl _) (s_X12_in (by omega) (by omega) (by omega) ?_)
    dsimp only [psh]
    refine x_ifeq (i := 18) (pc' := 30) (tgt := 43) rfl rfl (by decide) (by first | omega | ((repeat' split) <;> omega)) (fun e2 => ?_) (fun e2 => ?_)
    · skip
      refine x_iconst (i := 28) (pc' := 44) rfl rfl ?_
      refine x_ior (i := 29) (pc' := 45) rfl rfl (by first | omega | (exact Int.mul_nonneg (by omega) (Int.le_of_lt (Int.pow_pos (by omega)))) | ((repeat' split at *) <;> omega)) (by first | omega | (exact Int.mul_nonneg (by omega) (Int.le_of_lt (Int.pow_pos (by omega)))) | ((repeat' split at *) <;> omega)) ?_
      refine x_istore_n (L' := [some _, some _, some _, some _]) (i := 30) (pc' := 46) rfl rfl rfl rfl (by decide) rfl ?_
      refine x_iinc (L' := [some _, some _, some _, some _]) (i := 31) (pc' := 49) rfl rfl rfl rfl (by decide) rfl ?_
      refine x_goto (i := 32) (pc' := 4) rfl (by decide) ?_
      ((repeat' split at hk) <;> (repeat' split at *) <;> first | (exfalso; omega; done) | exact hk)
    · skip
      refine x_iconst (i := 19) (pc' := 31) rfl rfl ?_
      refine x_aload_n (i := 20) (pc' := 32) rfl rfl rfl rfl ?_
      refine m_getf (i := 21) (pc' := 35) rfl rfl flX12_31 (sh76 G) rfl rfl ?_
      refine x_iload_n (i := 22) (pc' := 36) rfl rfl rfl rfl ?_
      refine x_iload_n (i := 23) (pc' := 37) rfl rfl rfl rfl ?_
      refine x_iadd (i := 24) (pc' := 38) rfl rfl ?_
      refine m_iald (i := 25) (pc' := 39) rfl rfl (sh84 G) (by decide) ⟨by first | omega | (exact Int.mul_nonneg (by omega) (Int.le_of_lt (Int.pow_pos (by omega)))) | ((repeat' split at *) <;> omega), by first | omega | (exact Int.mul_nonneg (by omega) (Int.le_of_lt (Int.pow_pos (by omega)))) | ((repeat' split at *) <;> omega)⟩ ?_
      refine x_ishl (i := 26) (pc' := 40) rfl rfl (by first | omega | (exact Int.mul_nonneg (by omega) (Int.le_of_lt (Int.pow_pos (by omega)))) | ((repeat' split at *) <;> omega)) (by first | omega | (exact Int.mul_nonneg (by omega) (Int.le_of_lt (Int.pow_pos (by omega)))) | ((repeat' split at *) <;> omega)) ?_
      refine x_goto (i := 27) (pc' := 44) rfl (by decide) ?_
      refine x_ior (i := 29) (pc' := 45) rfl rfl (by first | omega | (exact Int.mul_nonneg (by omega) (Int.le_of_lt (Int.pow_pos (by omega)))) | ((repeat' split at *) <;> omega)) (by first | omega | (exact Int.mul_nonneg (by omega) (Int.le_of_lt (Int.pow_pos (by omega)))) | ((repeat' split at *) <;> omega)) ?_
      refine x_istore_n (L' := [some _, some _, some _, some _]) (i := 30) (pc' := 46) rfl rfl rfl rfl (by decide) rfl ?_
      refine x_iinc (L' := [some _, some _, some _, some _]) (i := 31) (pc' := 49) rfl rfl rfl rfl (by decide) rfl ?_
      refine x_goto (i := 32) (pc' := 4) rfl (by decide) ?_
      ((repeat' split at hk) <;> (repeat' split at *) <;> first | (exfalso; omega; done) | exact hk)
  · skip
    have e0 : it (fun (s : Int) (x : Int) => io x (if 0 ≤ m 84 (a + s) ∧ m 84 (a + s) ≤ 5 then 1 * 2 ^ (m 84 (a + s)).toNat else 0)) 0 (6 - 0 : Int).toNat 0 = las m a := rfl
    rw [e0]
    unfold lar lax_ at hQ
    by_cases h63 : las m a = 63
    · rw [if_pos h63, if_pos h63] at hQ
      rw [h63]
      refine x_iload_n (i := 4) (pc' := 5) rfl rfl rfl rfl ?_
      refine x_bipush (i := 5) (pc' := 7) rfl rfl (by decide) ?_
      refine x_icmpge (i := 6) (pc' := 10) (tgt := 52) rfl rfl (by decide) ⟨by omega, by omega⟩ ⟨by omega, by omega⟩ (fun c1 => ?_) (fun c1 => by exfalso; omega)
      refine x_iconst (i := 33) (pc' := 53) rfl rfl ?_
      refine x_istore_n (L' := [some _, some _, some _, some _]) (i := 34) (pc' := 54) rfl rfl rfl rfl (by decide) rfl ?_
      exact la_two ha hQ
    · rw [if_neg h63, if_neg h63] at hQ
      refine x_iload_n (i := 4) (pc' := 5) rfl rfl rfl rfl ?_
      refine x_bipush (i := 5) (pc' := 7) rfl rfl (by decide) ?_
      refine x_icmpge (i := 6) (pc' := 10) (tgt := 52) rfl rfl (by decide) ⟨by omega, by omega⟩ ⟨by omega, by omega⟩ (fun c1 => ?_) (fun c1 => by exfalso; omega)
      refine x_iconst (i := 33) (pc' := 53) rfl rfl ?_
      refine x_istore_n (L' := [some _, some _, some _, some _]) (i := 34) (pc' := 54) rfl rfl rfl rfl (by decide) rfl ?_
      refine x_iload_n (i := 35) (pc' := 55) rfl rfl rfl rfl ?_
      refine x_bipush (i := 36) (pc' := 57) rfl rfl (by decide) ?_
      refine x_icmpge (i := 37) (pc' := 60) (tgt := 90) rfl rfl (by decide) ⟨by omega, by omega⟩ ⟨by omega, by omega⟩ (fun c2 => by exfalso; omega) (fun c2 => ?_)
      refine x_iload_n (i := 38) (pc' := 61) rfl rfl rfl rfl ?_
      refine x_bipush (i := 39) (pc' := 63) rfl rfl (by decide) ?_
      refine x_icmpne (i := 40) (pc' := 66) (tgt := 90) rfl rfl (by decide) ⟨by omega, by omega⟩ ⟨by omega, by omega⟩ (fun c3 => ?_) (fun c3 => by exfalso; omega)
      refine x_iload_n (i := 55) (pc' := 91) rfl rfl rfl rfl ?_
      refine x_bipush (i := 56) (pc' := 93) rfl rfl (by decide) ?_
      refine x_icmpne (i := 57) (pc' := 96) (tgt := 100) rfl rfl (by decide) ⟨by omega, by omega⟩ ⟨by omega, by omega⟩ (fun c4 => ?_) (fun c4 => by exfalso; omega)
      refine x_iconst (i := 60) (pc' := 101) rfl rfl ?_
      exact m_zreturn (i := 61) rfl rfl (by omega) (hQ)
def dtf (m : Mem) (k : Int) : Int := if m 83 k = 3 then m 84 (6 * k + 1) else -1
def dtt (m : Mem) (k : Int) : Int := if m 83 k = 3 then m 84 (6 * k + 2) else if m 83 k = 2 then m 84 (6 * k + 1) else -1
def dsc (m : Mem) (k : Int) : Int := cns m (m 84 (6 * k)) (m 84 (6 * k + 1)) (m 84 (6 * k + 2)) (m 84 (6 * k + 3)) (m 84 (6 * k + 4))
def dwc (m : Mem) (k : Int) : Int := csy m (m 84 (6 * k)) (dtf m k) (dtt m k)
def dor (m : Mem) (k : Int) : Int := if m 82 k = 115 then (if dsc m k = 0 then 1 else 0) else if m 82 k = 119 then (if dwc m k = 0 then 1 else 0) else if m 82 k = 103 then (if (0 ≤ m 84 (6 * k) ∧ m 84 (6 * k) ≤ 3) ∧ (0 ≤ m 84 (6 * k + 1) ∧ m 84 (6 * k + 1) ≤ 5) then 1 else 0) else if m 82 k = 108 then lar m (6 * k) else if m 82 k = 100 then (if cnd m (m 84 (6 * k)) = 0 then 1 else 0) else 1
def dox (m : Mem) (k : Int) : Mem := if m 82 k = 115 then (if dsc m k = 0 then adm m (m 84 (6 * k)) (m 84 (6 * k + 1)) (m 84 (6 * k + 2)) (m 84 (6 * k + 3)) (m 84 (6 * k + 4)) else m) else if m 82 k = 119 then (if dwc m k = 0 then sym m (m 84 (6 * k)) (dtf m k) (dtt m k) else m) else if m 82 k = 103 then (if (0 ≤ m 84 (6 * k) ∧ m 84 (6 * k) ≤ 3) ∧ (0 ≤ m 84 (6 * k + 1) ∧ m 84 (6 * k + 1) ≤ 5) then stm m 77 (130 + m 84 (6 * k)) (m 84 (6 * k + 1)) else m) else if m 82 k = 108 then lax_ m (6 * k) else if m 82 k = 100 then (if cnd m (m 84 (6 * k)) = 0 then gos m (m 84 (6 * k)) else m) else stm m 77 1 0
theorem csy_0 {m : Mem} {a b c : Int} (h : csy m a b c = 0) (hc : CMd m) : m 77 1 < 16 := by
  have := hc.2
  unfold csy at h
  (repeat' split at h) <;> omega
theorem csy_rg (m : Mem) (a b c : Int) : -4 ≤ csy m a b c ∧ csy m a b c ≤ 0 := by unfold csy; (repeat' split) <;> omega
theorem cnd_rg (m : Mem) (a : Int) : -4 ≤ cnd m a ∧ cnd m a ≤ 0 := by unfold cnd; (repeat' split) <;> omega
theorem cnd_0 {m : Mem} {a : Int} (h : cnd m a = 0) : 0 ≤ a ∧ a < m 77 0 := by
  unfold cnd at h
  (repeat' split at h) <;> omega
def DG (m : Mem) (k : Int) : Prop := MR m ∧ NM m ∧ CMd m ∧ (∀ i, 0 ≤ i → i < m 77 1 → 0 ≤ m 77 (82 + 3 * i)) ∧ (0 ≤ k ∧ k < 60)
theorem s_X12_does {G : GG} {m : Mem} {Q : Option Value → Mem → Prop} {k : Int} (h : DG m k) (hQ : Q (some (.int (J (dor m k)))) (dox m k)) : CM G 4 mX12_does [.ref (G.2.2.2 76), .int (J (k))] m Q := by
  refine CM.of dkX12_does (Or.inl rfl) [some _, some _, none, none, none, none, none, none, none] rfl (Nat.le_of_ble_eq_true rfl) ?_
  obtain ⟨hM, hn, hc, hw, hk⟩ := h
  have r0 := hM 84 (6 * k); have r1 := hM 84 (6 * k + 1); have r2 := hM 84 (6 * k + 2); have r3 := hM 84 (6 * k + 3); have r4 := hM 84 (6 * k + 4); have r5 := hM 82 k; have r6 := hM 83 k
  have c1 : -4 ≤ dsc m k ∧ dsc m k ≤ 0 := cns_rg m (m 84 (6 * k)) (m 84 (6 * k + 1)) (m 84 (6 * k + 2)) (m 84 (6 * k + 3)) (m 84 (6 * k + 4))
  have c2 := csy_rg m (m 84 (6 * k)) (dtf m k) (dtt m k)
  have c3 := cnd_rg m (m 84 (6 * k))
  have c4 : lar m (6 * k) = 0 ∨ lar m (6 * k) = 1 := by unfold lar; split <;> simp
  have d1 : rg (dtf m k) := by unfold dtf; split <;> omega
  have d2 : rg (dtt m k) := by unfold dtt; (repeat' split) <;> omega
  unfold dor dox at hQ
  by_cases k1 : m 82 k = 115
  · rw [if_pos k1, if_pos k1] at hQ
    by_cases z1 : dsc m k = 0
    · rw [if_pos z1, if_pos z1] at hQ
      refine x_bipush (i := 0) (pc' := 2) rfl rfl (by decide) ?_
      refine x_iload_n (i := 1) (pc' := 3) rfl rfl rfl rfl ?_
      refine x_imul (i := 2) (pc' := 4) rfl rfl ?_
      refine x_istore_n (L' := [some _, some _, some _, none, none, none, none, none, none]) (i := 3) (pc' := 5) rfl rfl rfl rfl (by decide) rfl ?_
      refine x_aload_n (i := 4) (pc' := 6) rfl rfl rfl rfl ?_
      refine m_getf (i := 5) (pc' := 9) rfl rfl flX12_31 (sh76 G) rfl rfl ?_
      refine x_iload_n (i := 6) (pc' := 10) rfl rfl rfl rfl ?_
      refine m_iald (i := 7) (pc' := 11) rfl rfl (sh84 G) (by decide) ⟨by omega, by omega⟩ ?_
      refine x_istore_n (L' := [some _, some _, some _, some _, none, none, none, none, none]) (i := 8) (pc' := 12) rfl rfl rfl rfl (by decide) rfl ?_
      refine x_aload_n (i := 9) (pc' := 13) rfl rfl rfl rfl ?_
      refine m_getf (i := 10) (pc' := 16) rfl rfl flX12_31 (sh76 G) rfl rfl ?_
      refine x_iload_n (i := 11) (pc' := 17) rfl rfl rfl rfl ?_
      refine x_iconst (i := 12) (pc' := 18) rfl rfl ?_
      refine x_iadd (i := 13) (pc' := 19) rfl rfl ?_
      refine m_iald (i := 14) (pc' := 20) rfl rfl (sh84 G) (by decide) ⟨by omega, by omega⟩ ?_
      refine x_istore (L' := [some _, some _, some _, some _, some _, none, none, none, none]) (i := 15) (pc' := 22) rfl rfl rfl (by decide) rfl ?_
      refine x_aload_n (i := 16) (pc' := 23) rfl rfl rfl rfl ?_
      refine m_getf (i := 17) (pc' := 26) rfl rfl flX12_31 (sh76 G) rfl rfl ?_
      refine x_iload_n (i := 18) (pc' := 27) rfl rfl rfl rfl ?_
      refine x_iconst (i := 19) (pc' := 28) rfl rfl ?_
      refine x_iadd (i := 20) (pc' := 29) rfl rfl ?_
      refine m_iald (i := 21) (pc' := 30) rfl rfl (sh84 G) (by decide) ⟨by omega, by omega⟩ ?_
      refine x_istore (L' := [some _, some _, some _, some _, some _, some _, none, none, none]) (i := 22) (pc' := 32) rfl rfl rfl (by decide) rfl ?_
      refine x_aload_n (i := 23) (pc' := 33) rfl rfl rfl rfl ?_
      refine m_getf (i := 24) (pc' := 36) rfl rfl flX12_25 (sh76 G) rfl rfl ?_
      refine x_iload_n (i := 25) (pc' := 37) rfl rfl rfl rfl ?_
      refine m_iald (i := 26) (pc' := 38) rfl rfl (sh82 G) (by decide) ⟨by omega, by omega⟩ ?_
      rcases (by omega : m 82 k = 100 ∨ m 82 k = 103 ∨ m 82 k = 108 ∨ m 82 k = 115 ∨ m 82 k = 119 ∨ (¬ m 82 k = 100 ∧ ¬ m 82 k = 103 ∧ ¬ m 82 k = 108 ∧ ¬ m 82 k = 115 ∧ ¬ m 82 k = 119)) with c1 | c1 | c1 | c1 | c1 | c1
      · first | (exfalso; omega; done) | skip
        all_goals (
          refine x_look (i := 27) (off := 241) (tgt := 279) rfl (by decide) ⟨by omega, by omega⟩ (by rw [c1]; rfl) (by decide) ?_
          exfalso; omega
          skip)
      · first | (exfalso; omega; done) | skip
        all_goals (
          refine x_look (i := 27) (off := 207) (tgt := 245) rfl (by decide) ⟨by omega, by omega⟩ (by rw [c1]; rfl) (by decide) ?_
          exfalso; omega
          skip)
      · first | (exfalso; omega; done) | skip
        all_goals (
          refine x_look (i := 27) (off := 235) (tgt := 273) rfl (by decide) ⟨by omega, by omega⟩ (by rw [c1]; rfl) (by decide) ?_
          exfalso; omega
          skip)
      · first | (exfalso; omega; done) | skip
        all_goals (
          refine x_look (i := 27) (off := 50) (tgt := 88) rfl (by decide) ⟨by omega, by omega⟩ (by rw [c1]; rfl) (by decide) ?_
          refine x_aload_n (i := 28) (pc' := 89) rfl rfl rfl rfl ?_
          refine x_iload_n (i := 29) (pc' := 90) rfl rfl rfl rfl ?_
          refine x_iload (i := 30) (pc' := 92) rfl rfl rfl ?_
          refine x_iload (i := 31) (pc' := 94) rfl rfl rfl ?_
          refine x_aload_n (i := 32) (pc' := 95) rfl rfl rfl rfl ?_
          refine m_getf (i := 33) (pc' := 98) rfl rfl flX12_31 (sh76 G) rfl rfl ?_
          refine x_iload_n (i := 34) (pc' := 99) rfl rfl rfl rfl ?_
          refine x_iconst (i := 35) (pc' := 100) rfl rfl ?_
          refine x_iadd (i := 36) (pc' := 101) rfl rfl ?_
          refine m_iald (i := 37) (pc' := 102) rfl rfl (sh84 G) (by decide) ⟨by omega, by omega⟩ ?_
          refine x_aload_n (i := 38) (pc' := 103) rfl rfl rfl rfl ?_
          refine m_getf (i := 39) (pc' := 106) rfl rfl flX12_31 (sh76 G) rfl rfl ?_
          refine x_iload_n (i := 40) (pc' := 107) rfl rfl rfl rfl ?_
          refine x_iconst (i := 41) (pc' := 108) rfl rfl ?_
          refine x_iadd (i := 42) (pc' := 109) rfl rfl ?_
          refine m_iald (i := 43) (pc' := 110) rfl rfl (sh84 G) (by decide) ⟨by omega, by omega⟩ ?_
          refine m_callV (i := 44) (pc' := 113) (av := [_, _, _, _, _]) (rest := []) rfl rfl (by decide) lX12_66 (sh76 G) rfl rfl rfl rfl rfl (Nat.le_of_ble_eq_true rfl) (Nat.le_refl _) (Nat.le_refl _) (s_X12_canSign hM hn r0 r1 r2 r3 r4 ?_)
          dsimp only [psh]
          show BW G 4 mX12_does Q 113 _ [.int (J (dsc m k))] m
          refine x_ifne (i := 45) (pc' := 116) (tgt := 120) rfl rfl (by decide) ⟨by omega, by omega⟩ (fun c2 => ?_) (fun c2 => ?_)
          · first | (exfalso; omega; done) | skip
            all_goals (
              refine x_iconst (i := 48) (pc' := 121) rfl rfl ?_
              refine x_istore (L' := [some _, some _, some _, some _, some _, some _, some _, none, none]) (i := 49) (pc' := 123) rfl rfl rfl (by decide) rfl ?_
              refine x_iload (i := 50) (pc' := 125) rfl rfl rfl ?_
              refine x_ifeq (i := 51) (pc' := 128) (tgt := 154) rfl rfl (by decide) ⟨by omega, by omega⟩ (fun c3 => ?_) (fun c3 => ?_)
              · first | (exfalso; omega; done) | skip
                all_goals (
                  refine x_iload (i := 70) (pc' := 156) rfl rfl rfl ?_
                  exact m_zreturn (i := 71) rfl rfl (by omega) (by first | exact hQ | (exfalso; omega))
                  skip)
              · first | (exfalso; omega; done) | skip
                all_goals (
                  refine x_aload_n (i := 52) (pc' := 129) rfl rfl rfl rfl ?_
                  refine x_iload_n (i := 53) (pc' := 130) rfl rfl rfl rfl ?_
                  refine x_iload (i := 54) (pc' := 132) rfl rfl rfl ?_
                  refine x_iload (i := 55) (pc' := 134) rfl rfl rfl ?_
                  refine x_aload_n (i := 56) (pc' := 135) rfl rfl rfl rfl ?_
                  refine m_getf (i := 57) (pc' := 138) rfl rfl flX12_31 (sh76 G) rfl rfl ?_
                  refine x_iload_n (i := 58) (pc' := 139) rfl rfl rfl rfl ?_
                  refine x_iconst (i := 59) (pc' := 140) rfl rfl ?_
                  refine x_iadd (i := 60) (pc' := 141) rfl rfl ?_
                  refine m_iald (i := 61) (pc' := 142) rfl rfl (sh84 G) (by decide) ⟨by omega, by omega⟩ ?_
                  refine x_aload_n (i := 62) (pc' := 143) rfl rfl rfl rfl ?_
                  refine m_getf (i := 63) (pc' := 146) rfl rfl flX12_31 (sh76 G) rfl rfl ?_
                  refine x_iload_n (i := 64) (pc' := 147) rfl rfl rfl rfl ?_
                  refine x_iconst (i := 65) (pc' := 148) rfl rfl ?_
                  refine x_iadd (i := 66) (pc' := 149) rfl rfl ?_
                  refine m_iald (i := 67) (pc' := 150) rfl rfl (sh84 G) (by decide) ⟨by omega, by omega⟩ ?_
                  refine m_callV (i := 68) (pc' := 153) (av := [_, _, _, _, _]) (rest := []) rfl rfl (by decide) lX12_76 (sh76 G) rfl rfl rfl rfl rfl (Nat.le_of_ble_eq_true rfl) (Nat.le_refl _) (Nat.le_refl _) (s_X12_adds hn (cns_0 z1 hn) ?_)
                  dsimp only [psh]
                  refine x_pop (i := 69) (pc' := 154) rfl rfl rfl ?_
                  refine x_iload (i := 70) (pc' := 156) rfl rfl rfl ?_
                  exact m_zreturn (i := 71) rfl rfl (by omega) (by first | exact hQ | (exfalso; omega))
                  skip)
              skip)
          · first | (exfalso; omega; done) | skip
            all_goals (
              refine x_iconst (i := 46) (pc' := 117) rfl rfl ?_
              refine x_goto (i := 47) (pc' := 121) rfl (by decide) ?_
              refine x_istore (L' := [some _, some _, some _, some _, some _, some _, some _, none, none]) (i := 49) (pc' := 123) rfl rfl rfl (by decide) rfl ?_
              refine x_iload (i := 50) (pc' := 125) rfl rfl rfl ?_
              refine x_ifeq (i := 51) (pc' := 128) (tgt := 154) rfl rfl (by decide) ⟨by omega, by omega⟩ (fun c4 => ?_) (fun c4 => ?_)
              · first | (exfalso; omega; done) | skip
                all_goals (
                  refine x_iload (i := 70) (pc' := 156) rfl rfl rfl ?_
                  exact m_zreturn (i := 71) rfl rfl (by omega) (by first | exact hQ | (exfalso; omega))
                  skip)
              · first | (exfalso; omega; done) | skip
                all_goals (
                  refine x_aload_n (i := 52) (pc' := 129) rfl rfl rfl rfl ?_
                  refine x_iload_n (i := 53) (pc' := 130) rfl rfl rfl rfl ?_
                  refine x_iload (i := 54) (pc' := 132) rfl rfl rfl ?_
                  refine x_iload (i := 55) (pc' := 134) rfl rfl rfl ?_
                  refine x_aload_n (i := 56) (pc' := 135) rfl rfl rfl rfl ?_
                  refine m_getf (i := 57) (pc' := 138) rfl rfl flX12_31 (sh76 G) rfl rfl ?_
                  refine x_iload_n (i := 58) (pc' := 139) rfl rfl rfl rfl ?_
                  refine x_iconst (i := 59) (pc' := 140) rfl rfl ?_
                  refine x_iadd (i := 60) (pc' := 141) rfl rfl ?_
                  refine m_iald (i := 61) (pc' := 142) rfl rfl (sh84 G) (by decide) ⟨by omega, by omega⟩ ?_
                  refine x_aload_n (i := 62) (pc' := 143) rfl rfl rfl rfl ?_
                  refine m_getf (i := 63) (pc' := 146) rfl rfl flX12_31 (sh76 G) rfl rfl ?_
                  refine x_iload_n (i := 64) (pc' := 147) rfl rfl rfl rfl ?_
                  refine x_iconst (i := 65) (pc' := 148) rfl rfl ?_
                  refine x_iadd (i := 66) (pc' := 149) rfl rfl ?_
                  refine m_iald (i := 67) (pc' := 150) rfl rfl (sh84 G) (by decide) ⟨by omega, by omega⟩ ?_
                  refine m_callV (i := 68) (pc' := 153) (av := [_, _, _, _, _]) (rest := []) rfl rfl (by decide) lX12_76 (sh76 G) rfl rfl rfl rfl rfl (Nat.le_of_ble_eq_true rfl) (Nat.le_refl _) (Nat.le_refl _) (s_X12_adds hn (cns_0 z1 hn) ?_)
                  dsimp only [psh]
                  refine x_pop (i := 69) (pc' := 154) rfl rfl rfl ?_
                  refine x_iload (i := 70) (pc' := 156) rfl rfl rfl ?_
                  exact m_zreturn (i := 71) rfl rfl (by omega) (by first | exact hQ | (exfalso; omega))
                  skip)
              skip)
          skip)
      · first | (exfalso; omega; done) | skip
        all_goals (
          refine x_look (i := 27) (off := 119) (tgt := 157) rfl (by decide) ⟨by omega, by omega⟩ (by rw [c1]; rfl) (by decide) ?_
          exfalso; omega
          skip)
      · first | (exfalso; omega; done) | skip
        all_goals (
          refine x_look (i := 27) (off := 270) (tgt := 308) rfl (by decide) ⟨by omega, by omega⟩ (by simp [Op.lookupswitch.offset]; (repeat' split) <;> omega) (by decide) ?_
          exfalso; omega
          skip)
    · rw [if_neg z1, if_neg z1] at hQ
      refine x_bipush (i := 0) (pc' := 2) rfl rfl (by decide) ?_
      refine x_iload_n (i := 1) (pc' := 3) rfl rfl rfl rfl ?_
      refine x_imul (i := 2) (pc' := 4) rfl rfl ?_
      refine x_istore_n (L' := [some _, some _, some _, none, none, none, none, none, none]) (i := 3) (pc' := 5) rfl rfl rfl rfl (by decide) rfl ?_
      refine x_aload_n (i := 4) (pc' := 6) rfl rfl rfl rfl ?_
      refine m_getf (i := 5) (pc' := 9) rfl rfl flX12_31 (sh76 G) rfl rfl ?_
      refine x_iload_n (i := 6) (pc' := 10) rfl rfl rfl rfl ?_
      refine m_iald (i := 7) (pc' := 11) rfl rfl (sh84 G) (by decide) ⟨by omega, by omega⟩ ?_
      refine x_istore_n (L' := [some _, some _, some _, some _, none, none, none, none, none]) (i := 8) (pc' := 12) rfl rfl rfl rfl (by decide) rfl ?_
      refine x_aload_n (i := 9) (pc' := 13) rfl rfl rfl rfl ?_
      refine m_getf (i := 10) (pc' := 16) rfl rfl flX12_31 (sh76 G) rfl rfl ?_
      refine x_iload_n (i := 11) (pc' := 17) rfl rfl rfl rfl ?_
      refine x_iconst (i := 12) (pc' := 18) rfl rfl ?_
      refine x_iadd (i := 13) (pc' := 19) rfl rfl ?_
      refine m_iald (i := 14) (pc' := 20) rfl rfl (sh84 G) (by decide) ⟨by omega, by omega⟩ ?_
      refine x_istore (L' := [some _, some _, some _, some _, some _, none, none, none, none]) (i := 15) (pc' := 22) rfl rfl rfl (by decide) rfl ?_
      refine x_aload_n (i := 16) (pc' := 23) rfl rfl rfl rfl ?_
      refine m_getf (i := 17) (pc' := 26) rfl rfl flX12_31 (sh76 G) rfl rfl ?_
      refine x_iload_n (i := 18) (pc' := 27) rfl rfl rfl rfl ?_
      refine x_iconst (i := 19) (pc' := 28) rfl rfl ?_
      refine x_iadd (i := 20) (pc' := 29) rfl rfl ?_
      refine m_iald (i := 21) (pc' := 30) rfl rfl (sh84 G) (by decide) ⟨by omega, by omega⟩ ?_
      refine x_istore (L' := [some _, some _, some _, some _, some _, some _, none, none, none]) (i := 22) (pc' := 32) rfl rfl rfl (by decide) rfl ?_
      refine x_aload_n (i := 23) (pc' := 33) rfl rfl rfl rfl ?_
      refine m_getf (i := 24) (pc' := 36) rfl rfl flX12_25 (sh76 G) rfl rfl ?_
      refine x_iload_n (i := 25) (pc' := 37) rfl rfl rfl rfl ?_
      refine m_iald (i := 26) (pc' := 38) rfl rfl (sh82 G) (by decide) ⟨by omega, by omega⟩ ?_
      rcases (by omega : m 82 k = 100 ∨ m 82 k = 103 ∨ m 82 k = 108 ∨ m 82 k = 115 ∨ m 82 k = 119 ∨ (¬ m 82 k = 100 ∧ ¬ m 82 k = 103 ∧ ¬ m 82 k = 108 ∧ ¬ m 82 k = 115 ∧ ¬ m 82 k = 119)) with c1 | c1 | c1 | c1 | c1 | c1
      · first | (exfalso; omega; done) | skip
        all_goals (
          refine x_look (i := 27) (off := 241) (tgt := 279) rfl (by decide) ⟨by omega, by omega⟩ (by rw [c1]; rfl) (by decide) ?_
          exfalso; omega
          skip)
      · first | (exfalso; omega; done) | skip
        all_goals (
          refine x_look (i := 27) (off := 207) (tgt := 245) rfl (by decide) ⟨by omega, by omega⟩ (by rw [c1]; rfl) (by decide) ?_
          exfalso; omega
          skip)
      · first | (exfalso; omega; done) | skip
        all_goals (
          refine x_look (i := 27) (off := 235) (tgt := 273) rfl (by decide) ⟨by omega, by omega⟩ (by rw [c1]; rfl) (by decide) ?_
          exfalso; omega
          skip)
      · first | (exfalso; omega; done) | skip
        all_goals (
          refine x_look (i := 27) (off := 50) (tgt := 88) rfl (by decide) ⟨by omega, by omega⟩ (by rw [c1]; rfl) (by decide) ?_
          refine x_aload_n (i := 28) (pc' := 89) rfl rfl rfl rfl ?_
          refine x_iload_n (i := 29) (pc' := 90) rfl rfl rfl rfl ?_
          refine x_iload (i := 30) (pc' := 92) rfl rfl rfl ?_
          refine x_iload (i := 31) (pc' := 94) rfl rfl rfl ?_
          refine x_aload_n (i := 32) (pc' := 95) rfl rfl rfl rfl ?_
          refine m_getf (i := 33) (pc' := 98) rfl rfl flX12_31 (sh76 G) rfl rfl ?_
          refine x_iload_n (i := 34) (pc' := 99) rfl rfl rfl rfl ?_
          refine x_iconst (i := 35) (pc' := 100) rfl rfl ?_
          refine x_iadd (i := 36) (pc' := 101) rfl rfl ?_
          refine m_iald (i := 37) (pc' := 102) rfl rfl (sh84 G) (by decide) ⟨by omega, by omega⟩ ?_
          refine x_aload_n (i := 38) (pc' := 103) rfl rfl rfl rfl ?_
          refine m_getf (i := 39) (pc' := 106) rfl rfl flX12_31 (sh76 G) rfl rfl ?_
          refine x_iload_n (i := 40) (pc' := 107) rfl rfl rfl rfl ?_
          refine x_iconst (i := 41) (pc' := 108) rfl rfl ?_
          refine x_iadd (i := 42) (pc' := 109) rfl rfl ?_
          refine m_iald (i := 43) (pc' := 110) rfl rfl (sh84 G) (by decide) ⟨by omega, by omega⟩ ?_
          refine m_callV (i := 44) (pc' := 113) (av := [_, _, _, _, _]) (rest := []) rfl rfl (by decide) lX12_66 (sh76 G) rfl rfl rfl rfl rfl (Nat.le_of_ble_eq_true rfl) (Nat.le_refl _) (Nat.le_refl _) (s_X12_canSign hM hn r0 r1 r2 r3 r4 ?_)
          dsimp only [psh]
          show BW G 4 mX12_does Q 113 _ [.int (J (dsc m k))] m
          refine x_ifne (i := 45) (pc' := 116) (tgt := 120) rfl rfl (by decide) ⟨by omega, by omega⟩ (fun c2 => ?_) (fun c2 => ?_)
          · first | (exfalso; omega; done) | skip
            all_goals (
              refine x_iconst (i := 48) (pc' := 121) rfl rfl ?_
              refine x_istore (L' := [some _, some _, some _, some _, some _, some _, some _, none, none]) (i := 49) (pc' := 123) rfl rfl rfl (by decide) rfl ?_
              refine x_iload (i := 50) (pc' := 125) rfl rfl rfl ?_
              refine x_ifeq (i := 51) (pc' := 128) (tgt := 154) rfl rfl (by decide) ⟨by omega, by omega⟩ (fun c3 => ?_) (fun c3 => ?_)
              · first | (exfalso; omega; done) | skip
                all_goals (
                  refine x_iload (i := 70) (pc' := 156) rfl rfl rfl ?_
                  exact m_zreturn (i := 71) rfl rfl (by omega) (by first | exact hQ | (exfalso; omega))
                  skip)
              · first | (exfalso; omega; done) | skip
                all_goals (
                  refine x_aload_n (i := 52) (pc' := 129) rfl rfl rfl rfl ?_
                  refine x_iload_n (i := 53) (pc' := 130) rfl rfl rfl rfl ?_
                  refine x_iload (i := 54) (pc' := 132) rfl rfl rfl ?_
                  refine x_iload (i := 55) (pc' := 134) rfl rfl rfl ?_
                  refine x_aload_n (i := 56) (pc' := 135) rfl rfl rfl rfl ?_
                  refine m_getf (i := 57) (pc' := 138) rfl rfl flX12_31 (sh76 G) rfl rfl ?_
                  refine x_iload_n (i := 58) (pc' := 139) rfl rfl rfl rfl ?_
                  refine x_iconst (i := 59) (pc' := 140) rfl rfl ?_
                  refine x_iadd (i := 60) (pc' := 141) rfl rfl ?_
                  refine m_iald (i := 61) (pc' := 142) rfl rfl (sh84 G) (by decide) ⟨by omega, by omega⟩ ?_
                  refine x_aload_n (i := 62) (pc' := 143) rfl rfl rfl rfl ?_
                  refine m_getf (i := 63) (pc' := 146) rfl rfl flX12_31 (sh76 G) rfl rfl ?_
                  refine x_iload_n (i := 64) (pc' := 147) rfl rfl rfl rfl ?_
                  refine x_iconst (i := 65) (pc' := 148) rfl rfl ?_
                  refine x_iadd (i := 66) (pc' := 149) rfl rfl ?_
                  refine m_iald (i := 67) (pc' := 150) rfl rfl (sh84 G) (by decide) ⟨by omega, by omega⟩ ?_
                  refine m_callV (i := 68) (pc' := 153) (av := [_, _, _, _, _]) (rest := []) rfl rfl (by decide) lX12_76 (sh76 G) rfl rfl rfl rfl rfl (Nat.le_of_ble_eq_true rfl) (Nat.le_refl _) (Nat.le_refl _) (s_X12_adds hn (cns_0 z1 hn) ?_)
                  dsimp only [psh]
                  refine x_pop (i := 69) (pc' := 154) rfl rfl rfl ?_
                  refine x_iload (i := 70) (pc' := 156) rfl rfl rfl ?_
                  exact m_zreturn (i := 71) rfl rfl (by omega) (by first | exact hQ | (exfalso; omega))
                  skip)
              skip)
          · first | (exfalso; omega; done) | skip
            all_goals (
              refine x_iconst (i := 46) (pc' := 117) rfl rfl ?_
              refine x_goto (i := 47) (pc' := 121) rfl (by decide) ?_
              refine x_istore (L' := [some _, some _, some _, some _, some _, some _, some _, none, none]) (i := 49) (pc' := 123) rfl rfl rfl (by decide) rfl ?_
              refine x_iload (i := 50) (pc' := 125) rfl rfl rfl ?_
              refine x_ifeq (i := 51) (pc' := 128) (tgt := 154) rfl rfl (by decide) ⟨by omega, by omega⟩ (fun c4 => ?_) (fun c4 => ?_)
              · first | (exfalso; omega; done) | skip
                all_goals (
                  refine x_iload (i := 70) (pc' := 156) rfl rfl rfl ?_
                  exact m_zreturn (i := 71) rfl rfl (by omega) (by first | exact hQ | (exfalso; omega))
                  skip)
              · first | (exfalso; omega; done) | skip
                all_goals (
                  refine x_aload_n (i := 52) (pc' := 129) rfl rfl rfl rfl ?_
                  refine x_iload_n (i := 53) (pc' := 130) rfl rfl rfl rfl ?_
                  refine x_iload (i := 54) (pc' := 132) rfl rfl rfl ?_
                  refine x_iload (i := 55) (pc' := 134) rfl rfl rfl ?_
                  refine x_aload_n (i := 56) (pc' := 135) rfl rfl rfl rfl ?_
                  refine m_getf (i := 57) (pc' := 138) rfl rfl flX12_31 (sh76 G) rfl rfl ?_
                  refine x_iload_n (i := 58) (pc' := 139) rfl rfl rfl rfl ?_
                  refine x_iconst (i := 59) (pc' := 140) rfl rfl ?_
                  refine x_iadd (i := 60) (pc' := 141) rfl rfl ?_
                  refine m_iald (i := 61) (pc' := 142) rfl rfl (sh84 G) (by decide) ⟨by omega, by omega⟩ ?_
                  refine x_aload_n (i := 62) (pc' := 143) rfl rfl rfl rfl ?_
                  refine m_getf (i := 63) (pc' := 146) rfl rfl flX12_31 (sh76 G) rfl rfl ?_
                  refine x_iload_n (i := 64) (pc' := 147) rfl rfl rfl rfl ?_
                  refine x_iconst (i := 65) (pc' := 148) rfl rfl ?_
                  refine x_iadd (i := 66) (pc' := 149) rfl rfl ?_
                  refine m_iald (i := 67) (pc' := 150) rfl rfl (sh84 G) (by decide) ⟨by omega, by omega⟩ ?_
                  refine m_callV (i := 68) (pc' := 153) (av := [_, _, _, _, _]) (rest := []) rfl rfl (by decide) lX12_76 (sh76 G) rfl rfl rfl rfl rfl (Nat.le_of_ble_eq_true rfl) (Nat.le_refl _) (Nat.le_refl _) (s_X12_adds hn (cns_0 z1 hn) ?_)
                  dsimp only [psh]
                  refine x_pop (i := 69) (pc' := 154) rfl rfl rfl ?_
                  refine x_iload (i := 70) (pc' := 156) rfl rfl rfl ?_
                  exact m_zreturn (i := 71) rfl rfl (by omega) (by first | exact hQ | (exfalso; omega))
                  skip)
              skip)
          skip)
      · first | (exfalso; omega; done) | skip
        all_goals (
          refine x_look (i := 27) (off := 119) (tgt := 157) rfl (by decide) ⟨by omega, by omega⟩ (by rw [c1]; rfl) (by decide) ?_
          exfalso; omega
          skip)
      · first | (exfalso; omega; done) | skip
        all_goals (
          refine x_look (i := 27) (off := 270) (tgt := 308) rfl (by decide) ⟨by omega, by omega⟩ (by simp [Op.lookupswitch.offset]; (repeat' split) <;> omega) (by decide) ?_
          exfalso; omega
          skip)
  rw [if_neg k1, if_neg k1] at hQ
  by_cases k2 : m 82 k = 119
  · rw [if_pos k2, if_pos k2] at hQ
    rcases (by omega : m 83 k = 3 ∨ m 83 k = 2 ∨ (¬ m 83 k = 3 ∧ ¬ m 83 k = 2)) with q3 | q3 | q3
    · have ef : dtf m k = m 84 (6 * k + 1) := by unfold dtf; rw [if_pos q3]
      have et : dtt m k = m 84 (6 * k + 2) := by unfold dtt; rw [if_pos q3]
      by_cases z1 : dwc m k = 0
      · rw [if_pos z1, if_pos z1] at hQ
        unfold dwc at z1
        rw [ef] at d1
        rw [et] at d2
        rw [ef, et] at z1 hQ c2
        refine x_bipush (i := 0) (pc' := 2) rfl rfl (by decide) ?_
        refine x_iload_n (i := 1) (pc' := 3) rfl rfl rfl rfl ?_
        refine x_imul (i := 2) (pc' := 4) rfl rfl ?_
        refine x_istore_n (L' := [some _, some _, some _, none, none, none, none, none, none]) (i := 3) (pc' := 5) rfl rfl rfl rfl (by decide) rfl ?_
        refine x_aload_n (i := 4) (pc' := 6) rfl rfl rfl rfl ?_
        refine m_getf (i := 5) (pc' := 9) rfl rfl flX12_31 (sh76 G) rfl rfl ?_
        refine x_iload_n (i := 6) (pc' := 10) rfl rfl rfl rfl ?_
        refine m_iald (i := 7) (pc' := 11) rfl rfl (sh84 G) (by decide) ⟨by omega, by omega⟩ ?_
        refine x_istore_n (L' := [some _, some _, some _, some _, none, none, none, none, none]) (i := 8) (pc' := 12) rfl rfl rfl rfl (by decide) rfl ?_
        refine x_aload_n (i := 9) (pc' := 13) rfl rfl rfl rfl ?_
        refine m_getf (i := 10) (pc' := 16) rfl rfl flX12_31 (sh76 G) rfl rfl ?_
        refine x_iload_n (i := 11) (pc' := 17) rfl rfl rfl rfl ?_
        refine x_iconst (i := 12) (pc' := 18) rfl rfl ?_
        refine x_iadd (i := 13) (pc' := 19) rfl rfl ?_
        refine m_iald (i := 14) (pc' := 20) rfl rfl (sh84 G) (by decide) ⟨by omega, by omega⟩ ?_
        refine x_istore (L' := [some _, some _, some _, some _, some _, none, none, none, none]) (i := 15) (pc' := 22) rfl rfl rfl (by decide) rfl ?_
        refine x_aload_n (i := 16) (pc' := 23) rfl rfl rfl rfl ?_
        refine m_getf (i := 17) (pc' := 26) rfl rfl flX12_31 (sh76 G) rfl rfl ?_
        refine x_iload_n (i := 18) (pc' := 27) rfl rfl rfl rfl ?_
        refine x_iconst (i := 19) (pc' := 28) rfl rfl ?_
        refine x_iadd (i := 20) (pc' := 29) rfl rfl ?_
        refine m_iald (i := 21) (pc' := 30) rfl rfl (sh84 G) (by decide) ⟨by omega, by omega⟩ ?_
        refine x_istore (L' := [some _, some _, some _, some _, some _, some _, none, none, none]) (i := 22) (pc' := 32) rfl rfl rfl (by decide) rfl ?_
        refine x_aload_n (i := 23) (pc' := 33) rfl rfl rfl rfl ?_
        refine m_getf (i := 24) (pc' := 36) rfl rfl flX12_25 (sh76 G) rfl rfl ?_
        refine x_iload_n (i := 25) (pc' := 37) rfl rfl rfl rfl ?_
        refine m_iald (i := 26) (pc' := 38) rfl rfl (sh82 G) (by decide) ⟨by omega, by omega⟩ ?_
        rcases (by omega : m 82 k = 100 ∨ m 82 k = 103 ∨ m 82 k = 108 ∨ m 82 k = 115 ∨ m 82 k = 119 ∨ (¬ m 82 k = 100 ∧ ¬ m 82 k = 103 ∧ ¬ m 82 k = 108 ∧ ¬ m 82 k = 115 ∧ ¬ m 82 k = 119)) with c1 | c1 | c1 | c1 | c1 | c1
        · first | (exfalso; omega; done) | skip
          all_goals (
            refine x_look (i := 27) (off := 241) (tgt := 279) rfl (by decide) ⟨by omega, by omega⟩ (by rw [c1]; rfl) (by decide) ?_
            exfalso; omega
            skip)
        · first | (exfalso; omega; done) | skip
          all_goals (
            refine x_look (i := 27) (off := 207) (tgt := 245) rfl (by decide) ⟨by omega, by omega⟩ (by rw [c1]; rfl) (by decide) ?_
            exfalso; omega
            skip)
        · first | (exfalso; omega; done) | skip
          all_goals (
            refine x_look (i := 27) (off := 235) (tgt := 273) rfl (by decide) ⟨by omega, by omega⟩ (by rw [c1]; rfl) (by decide) ?_
            exfalso; omega
            skip)
        · first | (exfalso; omega; done) | skip
          all_goals (
            refine x_look (i := 27) (off := 50) (tgt := 88) rfl (by decide) ⟨by omega, by omega⟩ (by rw [c1]; rfl) (by decide) ?_
            exfalso; omega
            skip)
        · first | (exfalso; omega; done) | skip
          all_goals (
            refine x_look (i := 27) (off := 119) (tgt := 157) rfl (by decide) ⟨by omega, by omega⟩ (by rw [c1]; rfl) (by decide) ?_
            refine x_aload_n (i := 72) (pc' := 158) rfl rfl rfl rfl ?_
            refine m_getf (i := 73) (pc' := 161) rfl rfl flX12_28 (sh76 G) rfl rfl ?_
            refine x_iload_n (i := 74) (pc' := 162) rfl rfl rfl rfl ?_
            refine m_iald (i := 75) (pc' := 163) rfl rfl (sh83 G) (by decide) ⟨by omega, by omega⟩ ?_
            refine x_iconst (i := 76) (pc' := 164) rfl rfl ?_
            refine x_icmpne (i := 77) (pc' := 167) (tgt := 172) rfl rfl (by decide) ⟨by omega, by omega⟩ ⟨by omega, by omega⟩ (fun c2 => ?_) (fun c2 => ?_)
            · first | (exfalso; omega; done) | skip
              all_goals (
                refine x_iconst (i := 80) (pc' := 173) rfl rfl ?_
                refine x_istore (L' := [some _, some _, some _, some _, some _, some _, none, some _, none]) (i := 81) (pc' := 175) rfl rfl rfl (by decide) rfl ?_
                refine x_aload_n (i := 82) (pc' := 176) rfl rfl rfl rfl ?_
                refine m_getf (i := 83) (pc' := 179) rfl rfl flX12_28 (sh76 G) rfl rfl ?_
                refine x_iload_n (i := 84) (pc' := 180) rfl rfl rfl rfl ?_
                refine m_iald (i := 85) (pc' := 181) rfl rfl (sh83 G) (by decide) ⟨by omega, by omega⟩ ?_
                refine x_iconst (i := 86) (pc' := 182) rfl rfl ?_
                refine x_icmpne (i := 87) (pc' := 185) (tgt := 190) rfl rfl (by decide) ⟨by omega, by omega⟩ ⟨by omega, by omega⟩ (fun c3 => ?_) (fun c3 => ?_)
                · first | (exfalso; omega; done) | skip
                  all_goals (
                    refine x_aload_n (i := 90) (pc' := 191) rfl rfl rfl rfl ?_
                    refine m_getf (i := 91) (pc' := 194) rfl rfl flX12_28 (sh76 G) rfl rfl ?_
                    refine x_iload_n (i := 92) (pc' := 195) rfl rfl rfl rfl ?_
                    refine m_iald (i := 93) (pc' := 196) rfl rfl (sh83 G) (by decide) ⟨by omega, by omega⟩ ?_
                    refine x_iconst (i := 94) (pc' := 197) rfl rfl ?_
                    refine x_icmpne (i := 95) (pc' := 200) (tgt := 205) rfl rfl (by decide) ⟨by omega, by omega⟩ ⟨by omega, by omega⟩ (fun c4 => ?_) (fun c4 => ?_)
                    · first | (exfalso; omega; done) | skip
                      all_goals (
                        refine x_iconst (i := 98) (pc' := 206) rfl rfl ?_
                        refine x_istore (L' := [some _, some _, some _, some _, some _, some _, none, some _, some _]) (i := 99) (pc' := 208) rfl rfl rfl (by decide) rfl ?_
                        refine x_aload_n (i := 100) (pc' := 209) rfl rfl rfl rfl ?_
                        refine x_iload_n (i := 101) (pc' := 210) rfl rfl rfl rfl ?_
                        refine x_iload (i := 102) (pc' := 212) rfl rfl rfl ?_
                        refine x_iload (i := 103) (pc' := 214) rfl rfl rfl ?_
                        refine m_callV (i := 104) (pc' := 217) (av := [_, _, _]) (rest := []) rfl rfl (by decide) lX12_174 (sh76 G) rfl rfl rfl rfl rfl (Nat.le_of_ble_eq_true rfl) (Nat.le_refl _) (Nat.le_refl _) (s_X12_canSay hn hc r0 d1 d2 ?_)
                        dsimp only [psh]
                        refine x_ifne (i := 105) (pc' := 220) (tgt := 224) rfl rfl (by decide) ⟨by omega, by omega⟩ (fun c5 => ?_) (fun c5 => ?_)
                        · first | (exfalso; omega; done) | skip
                          all_goals (
                            refine x_iconst (i := 108) (pc' := 225) rfl rfl ?_
                            refine x_istore (L' := [some _, some _, some _, some _, some _, some _, some _, some _, some _]) (i := 109) (pc' := 227) rfl rfl rfl (by decide) rfl ?_
                            refine x_iload (i := 110) (pc' := 229) rfl rfl rfl ?_
                            refine x_ifeq (i := 111) (pc' := 232) (tgt := 242) rfl rfl (by decide) ⟨by omega, by omega⟩ (fun c6 => ?_) (fun c6 => ?_)
                            · first | (exfalso; omega; done) | skip
                              all_goals (
                                refine x_iload (i := 118) (pc' := 244) rfl rfl rfl ?_
                                exact m_zreturn (i := 119) rfl rfl (by omega) (by first | exact hQ | (exfalso; omega))
                                skip)
                            · first | (exfalso; omega; done) | skip
                              all_goals (
                                refine x_aload_n (i := 112) (pc' := 233) rfl rfl rfl rfl ?_
                                refine x_iload_n (i := 113) (pc' := 234) rfl rfl rfl rfl ?_
                                refine x_iload (i := 114) (pc' := 236) rfl rfl rfl ?_
                                refine x_iload (i := 115) (pc' := 238) rfl rfl rfl ?_
                                refine m_callV (i := 116) (pc' := 241) (av := [_, _, _]) (rest := []) rfl rfl (by decide) lX12_177 (sh76 G) rfl rfl rfl rfl rfl (Nat.le_of_ble_eq_true rfl) (Nat.le_refl _) (Nat.le_refl _) (s_X12_says hc (csy_0 z1 hc) ?_)
                                dsimp only [psh]
                                refine x_pop (i := 117) (pc' := 242) rfl rfl rfl ?_
                                refine x_iload (i := 118) (pc' := 244) rfl rfl rfl ?_
                                exact m_zreturn (i := 119) rfl rfl (by omega) (by first | exact hQ | (exfalso; omega))
                                skip)
                            skip)
                        · first | (exfalso; omega; done) | skip
                          all_goals (
                            refine x_iconst (i := 106) (pc' := 221) rfl rfl ?_
                            refine x_goto (i := 107) (pc' := 225) rfl (by decide) ?_
                            refine x_istore (L' := [some _, some _, some _, some _, some _, some _, some _, some _, some _]) (i := 109) (pc' := 227) rfl rfl rfl (by decide) rfl ?_
                            refine x_iload (i := 110) (pc' := 229) rfl rfl rfl ?_
                            refine x_ifeq (i := 111) (pc' := 232) (tgt := 242) rfl rfl (by decide) ⟨by omega, by omega⟩ (fun c7 => ?_) (fun c7 => ?_)
                            · first | (exfalso; omega; done) | skip
                              all_goals (
                                refine x_iload (i := 118) (pc' := 244) rfl rfl rfl ?_
                                exact m_zreturn (i := 119) rfl rfl (by omega) (by first | exact hQ | (exfalso; omega))
                                skip)
                            · first | (exfalso; omega; done) | skip
                              all_goals (
                                refine x_aload_n (i := 112) (pc' := 233) rfl rfl rfl rfl ?_
                                refine x_iload_n (i := 113) (pc' := 234) rfl rfl rfl rfl ?_
                                refine x_iload (i := 114) (pc' := 236) rfl rfl rfl ?_
                                refine x_iload (i := 115) (pc' := 238) rfl rfl rfl ?_
                                refine m_callV (i := 116) (pc' := 241) (av := [_, _, _]) (rest := []) rfl rfl (by decide) lX12_177 (sh76 G) rfl rfl rfl rfl rfl (Nat.le_of_ble_eq_true rfl) (Nat.le_refl _) (Nat.le_refl _) (s_X12_says hc (csy_0 z1 hc) ?_)
                                dsimp only [psh]
                                refine x_pop (i := 117) (pc' := 242) rfl rfl rfl ?_
                                refine x_iload (i := 118) (pc' := 244) rfl rfl rfl ?_
                                exact m_zreturn (i := 119) rfl rfl (by omega) (by first | exact hQ | (exfalso; omega))
                                skip)
                            skip)
                        skip)
                    · first | (exfalso; omega; done) | skip
                      all_goals (
                        refine x_iload (i := 96) (pc' := 202) rfl rfl rfl ?_
                        refine x_goto (i := 97) (pc' := 206) rfl (by decide) ?_
                        refine x_istore (L' := [some _, some _, some _, some _, some _, some _, none, some _, some _]) (i := 99) (pc' := 208) rfl rfl rfl (by decide) rfl ?_
                        refine x_aload_n (i := 100) (pc' := 209) rfl rfl rfl rfl ?_
                        refine x_iload_n (i := 101) (pc' := 210) rfl rfl rfl rfl ?_
                        refine x_iload (i := 102) (pc' := 212) rfl rfl rfl ?_
                        refine x_iload (i := 103) (pc' := 214) rfl rfl rfl ?_
                        refine m_callV (i := 104) (pc' := 217) (av := [_, _, _]) (rest := []) rfl rfl (by decide) lX12_174 (sh76 G) rfl rfl rfl rfl rfl (Nat.le_of_ble_eq_true rfl) (Nat.le_refl _) (Nat.le_refl _) (s_X12_canSay hn hc r0 d1 d2 ?_)
                        dsimp only [psh]
                        refine x_ifne (i := 105) (pc' := 220) (tgt := 224) rfl rfl (by decide) ⟨by omega, by omega⟩ (fun c8 => ?_) (fun c8 => ?_)
                        · first | (exfalso; omega; done) | skip
                          all_goals (
                            refine x_iconst (i := 108) (pc' := 225) rfl rfl ?_
                            refine x_istore (L' := [some _, some _, some _, some _, some _, some _, some _, some _, some _]) (i := 109) (pc' := 227) rfl rfl rfl (by decide) rfl ?_
                            refine x_iload (i := 110) (pc' := 229) rfl rfl rfl ?_
                            refine x_ifeq (i := 111) (pc' := 232) (tgt := 242) rfl rfl (by decide) ⟨by omega, by omega⟩ (fun c9 => ?_) (fun c9 => ?_)
                            · first | (exfalso; omega; done) | skip
                              all_goals (
                                refine x_iload (i := 118) (pc' := 244) rfl rfl rfl ?_
                                exact m_zreturn (i := 119) rfl rfl (by omega) (by first | exact hQ | (exfalso; omega))
                                skip)
                            · first | (exfalso; omega; done) | skip
                              all_goals (
                                refine x_aload_n (i := 112) (pc' := 233) rfl rfl rfl rfl ?_
                                refine x_iload_n (i := 113) (pc' := 234) rfl rfl rfl rfl ?_
                                refine x_iload (i := 114) (pc' := 236) rfl rfl rfl ?_
                                refine x_iload (i := 115) (pc' := 238) rfl rfl rfl ?_
                                refine m_callV (i := 116) (pc' := 241) (av := [_, _, _]) (rest := []) rfl rfl (by decide) lX12_177 (sh76 G) rfl rfl rfl rfl rfl (Nat.le_of_ble_eq_true rfl) (Nat.le_refl _) (Nat.le_refl _) (s_X12_says hc (csy_0 z1 hc) ?_)
                                dsimp only [psh]
                                refine x_pop (i := 117) (pc' := 242) rfl rfl rfl ?_
                                refine x_iload (i := 118) (pc' := 244) rfl rfl rfl ?_
                                exact m_zreturn (i := 119) rfl rfl (by omega) (by first | exact hQ | (exfalso; omega))
                                skip)
                            skip)
                        · first | (exfalso; omega; done) | skip
                          all_goals (
                            refine x_iconst (i := 106) (pc' := 221) rfl rfl ?_
                            refine x_goto (i := 107) (pc' := 225) rfl (by decide) ?_
                            refine x_istore (L' := [some _, some _, some _, some _, some _, some _, some _, some _, some _]) (i := 109) (pc' := 227) rfl rfl rfl (by decide) rfl ?_
                            refine x_iload (i := 110) (pc' := 229) rfl rfl rfl ?_
                            refine x_ifeq (i := 111) (pc' := 232) (tgt := 242) rfl rfl (by decide) ⟨by omega, by omega⟩ (fun c10 => ?_) (fun c10 => ?_)
                            · first | (exfalso; omega; done) | skip
                              all_goals (
                                refine x_iload (i := 118) (pc' := 244) rfl rfl rfl ?_
                                exact m_zreturn (i := 119) rfl rfl (by omega) (by first | exact hQ | (exfalso; omega))
                                skip)
                            · first | (exfalso; omega; done) | skip
                              all_goals (
                                refine x_aload_n (i := 112) (pc' := 233) rfl rfl rfl rfl ?_
                                refine x_iload_n (i := 113) (pc' := 234) rfl rfl rfl rfl ?_
                                refine x_iload (i := 114) (pc' := 236) rfl rfl rfl ?_
                                refine x_iload (i := 115) (pc' := 238) rfl rfl rfl ?_
                                refine m_callV (i := 116) (pc' := 241) (av := [_, _, _]) (rest := []) rfl rfl (by decide) lX12_177 (sh76 G) rfl rfl rfl rfl rfl (Nat.le_of_ble_eq_true rfl) (Nat.le_refl _) (Nat.le_refl _) (s_X12_says hc (csy_0 z1 hc) ?_)
                                dsimp only [psh]
                                refine x_pop (i := 117) (pc' := 242) rfl rfl rfl ?_
                                refine x_iload (i := 118) (pc' := 244) rfl rfl rfl ?_
                                exact m_zreturn (i := 119) rfl rfl (by omega) (by first | exact hQ | (exfalso; omega))
                                skip)
                            skip)
                        skip)
                    skip)
                · first | (exfalso; omega; done) | skip
                  all_goals (
                    refine x_iload (i := 88) (pc' := 187) rfl rfl rfl ?_
                    refine x_goto (i := 89) (pc' := 206) rfl (by decide) ?_
                    refine x_istore (L' := [some _, some _, some _, some _, some _, some _, none, some _, some _]) (i := 99) (pc' := 208) rfl rfl rfl (by decide) rfl ?_
                    refine x_aload_n (i := 100) (pc' := 209) rfl rfl rfl rfl ?_
                    refine x_iload_n (i := 101) (pc' := 210) rfl rfl rfl rfl ?_
                    refine x_iload (i := 102) (pc' := 212) rfl rfl rfl ?_
                    refine x_iload (i := 103) (pc' := 214) rfl rfl rfl ?_
                    refine m_callV (i := 104) (pc' := 217) (av := [_, _, _]) (rest := []) rfl rfl (by decide) lX12_174 (sh76 G) rfl rfl rfl rfl rfl (Nat.le_of_ble_eq_true rfl) (Nat.le_refl _) (Nat.le_refl _) (s_X12_canSay hn hc r0 d1 d2 ?_)
                    dsimp only [psh]
                    refine x_ifne (i := 105) (pc' := 220) (tgt := 224) rfl rfl (by decide) ⟨by omega, by omega⟩ (fun c11 => ?_) (fun c11 => ?_)
                    · first | (exfalso; omega; done) | skip
                      all_goals (
                        refine x_iconst (i := 108) (pc' := 225) rfl rfl ?_
                        refine x_istore (L' := [some _, some _, some _, some _, some _, some _, some _, some _, some _]) (i := 109) (pc' := 227) rfl rfl rfl (by decide) rfl ?_
                        refine x_iload (i := 110) (pc' := 229) rfl rfl rfl ?_
                        refine x_ifeq (i := 111) (pc' := 232) (tgt := 242) rfl rfl (by decide) ⟨by omega, by omega⟩ (fun c12 => ?_) (fun c12 => ?_)
                        · first | (exfalso; omega; done) | skip
                          all_goals (
                            refine x_iload (i := 118) (pc' := 244) rfl rfl rfl ?_
                            exact m_zreturn (i := 119) rfl rfl (by omega) (by first | exact hQ | (exfalso; omega))
                            skip)
                        · first | (exfalso; omega; done) | skip
                          all_goals (
                            refine x_aload_n (i := 112) (pc' := 233) rfl rfl rfl rfl ?_
                            refine x_iload_n (i := 113) (pc' := 234) rfl rfl rfl rfl ?_
                            refine x_iload (i := 114) (pc' := 236) rfl rfl rfl ?_
                            refine x_iload (i := 115) (pc' := 238) rfl rfl rfl ?_
                            refine m_callV (i := 116) (pc' := 241) (av := [_, _, _]) (rest := []) rfl rfl (by decide) lX12_177 (sh76 G) rfl rfl rfl rfl rfl (Nat.le_of_ble_eq_true rfl) (Nat.le_refl _) (Nat.le_refl _) (s_X12_says hc (csy_0 z1 hc) ?_)
                            dsimp only [psh]
                            refine x_pop (i := 117) (pc' := 242) rfl rfl rfl ?_
                            refine x_iload (i := 118) (pc' := 244) rfl rfl rfl ?_
                            exact m_zreturn (i := 119) rfl rfl (by omega) (by first | exact hQ | (exfalso; omega))
                            skip)
                        skip)
                    · first | (exfalso; omega; done) | skip
                      all_goals (
                        refine x_iconst (i := 106) (pc' := 221) rfl rfl ?_
                        refine x_goto (i := 107) (pc' := 225) rfl (by decide) ?_
                        refine x_istore (L' := [some _, some _, some _, some _, some _, some _, some _, some _, some _]) (i := 109) (pc' := 227) rfl rfl rfl (by decide) rfl ?_
                        refine x_iload (i := 110) (pc' := 229) rfl rfl rfl ?_
                        refine x_ifeq (i := 111) (pc' := 232) (tgt := 242) rfl rfl (by decide) ⟨by omega, by omega⟩ (fun c13 => ?_) (fun c13 => ?_)
                        · first | (exfalso; omega; done) | skip
                          all_goals (
                            refine x_iload (i := 118) (pc' := 244) rfl rfl rfl ?_
                            exact m_zreturn (i := 119) rfl rfl (by omega) (by first | exact hQ | (exfalso; omega))
                            skip)
                        · first | (exfalso; omega; done) | skip
                          all_goals (
                            refine x_aload_n (i := 112) (pc' := 233) rfl rfl rfl rfl ?_
                            refine x_iload_n (i := 113) (pc' := 234) rfl rfl rfl rfl ?_
                            refine x_iload (i := 114) (pc' := 236) rfl rfl rfl ?_
                            refine x_iload (i := 115) (pc' := 238) rfl rfl rfl ?_
                            refine m_callV (i := 116) (pc' := 241) (av := [_, _, _]) (rest := []) rfl rfl (by decide) lX12_177 (sh76 G) rfl rfl rfl rfl rfl (Nat.le_of_ble_eq_true rfl) (Nat.le_refl _) (Nat.le_refl _) (s_X12_says hc (csy_0 z1 hc) ?_)
                            dsimp only [psh]
                            refine x_pop (i := 117) (pc' := 242) rfl rfl rfl ?_
                            refine x_iload (i := 118) (pc' := 244) rfl rfl rfl ?_
                            exact m_zreturn (i := 119) rfl rfl (by omega) (by first | exact hQ | (exfalso; omega))
                            skip)
                        skip)
                    skip)
                skip)
            · first | (exfalso; omega; done) | skip
              all_goals (
                refine x_iload (i := 78) (pc' := 169) rfl rfl rfl ?_
                refine x_goto (i := 79) (pc' := 173) rfl (by decide) ?_
                refine x_istore (L' := [some _, some _, some _, some _, some _, some _, none, some _, none]) (i := 81) (pc' := 175) rfl rfl rfl (by decide) rfl ?_
                refine x_aload_n (i := 82) (pc' := 176) rfl rfl rfl rfl ?_
                refine m_getf (i := 83) (pc' := 179) rfl rfl flX12_28 (sh76 G) rfl rfl ?_
                refine x_iload_n (i := 84) (pc' := 180) rfl rfl rfl rfl ?_
                refine m_iald (i := 85) (pc' := 181) rfl rfl (sh83 G) (by decide) ⟨by omega, by omega⟩ ?_
                refine x_iconst (i := 86) (pc' := 182) rfl rfl ?_
                refine x_icmpne (i := 87) (pc' := 185) (tgt := 190) rfl rfl (by decide) ⟨by omega, by omega⟩ ⟨by omega, by omega⟩ (fun c14 => ?_) (fun c14 => ?_)
                · first | (exfalso; omega; done) | skip
                  all_goals (
                    refine x_aload_n (i := 90) (pc' := 191) rfl rfl rfl rfl ?_
                    refine m_getf (i := 91) (pc' := 194) rfl rfl flX12_28 (sh76 G) rfl rfl ?_
                    refine x_iload_n (i := 92) (pc' := 195) rfl rfl rfl rfl ?_
                    refine m_iald (i := 93) (pc' := 196) rfl rfl (sh83 G) (by decide) ⟨by omega, by omega⟩ ?_
                    refine x_iconst (i := 94) (pc' := 197) rfl rfl ?_
                    refine x_icmpne (i := 95) (pc' := 200) (tgt := 205) rfl rfl (by decide) ⟨by omega, by omega⟩ ⟨by omega, by omega⟩ (fun c15 => ?_) (fun c15 => ?_)
                    · first | (exfalso; omega; done) | skip
                      all_goals (
                        refine x_iconst (i := 98) (pc' := 206) rfl rfl ?_
                        refine x_istore (L' := [some _, some _, some _, some _, some _, some _, none, some _, some _]) (i := 99) (pc' := 208) rfl rfl rfl (by decide) rfl ?_
                        refine x_aload_n (i := 100) (pc' := 209) rfl rfl rfl rfl ?_
                        refine x_iload_n (i := 101) (pc' := 210) rfl rfl rfl rfl ?_
                        refine x_iload (i := 102) (pc' := 212) rfl rfl rfl ?_
                        refine x_iload (i := 103) (pc' := 214) rfl rfl rfl ?_
                        refine m_callV (i := 104) (pc' := 217) (av := [_, _, _]) (rest := []) rfl rfl (by decide) lX12_174 (sh76 G) rfl rfl rfl rfl rfl (Nat.le_of_ble_eq_true rfl) (Nat.le_refl _) (Nat.le_refl _) (s_X12_canSay hn hc r0 d1 d2 ?_)
                        dsimp only [psh]
                        refine x_ifne (i := 105) (pc' := 220) (tgt := 224) rfl rfl (by decide) ⟨by omega, by omega⟩ (fun c16 => ?_) (fun c16 => ?_)
                        · first | (exfalso; omega; done) | skip
                          all_goals (
                            refine x_iconst (i := 108) (pc' := 225) rfl rfl ?_
                            refine x_istore (L' := [some _, some _, some _, some _, some _, some _, some _, some _, some _]) (i := 109) (pc' := 227) rfl rfl rfl (by decide) rfl ?_
                            refine x_iload (i := 110) (pc' := 229) rfl rfl rfl ?_
                            refine x_ifeq (i := 111) (pc' := 232) (tgt := 242) rfl rfl (by decide) ⟨by omega, by omega⟩ (fun c17 => ?_) (fun c17 => ?_)
                            · first | (exfalso; omega; done) | skip
                              all_goals (
                                refine x_iload (i := 118) (pc' := 244) rfl rfl rfl ?_
                                exact m_zreturn (i := 119) rfl rfl (by omega) (by first | exact hQ | (exfalso; omega))
                                skip)
                            · first | (exfalso; omega; done) | skip
                              all_goals (
                                refine x_aload_n (i := 112) (pc' := 233) rfl rfl rfl rfl ?_
                                refine x_iload_n (i := 113) (pc' := 234) rfl rfl rfl rfl ?_
                                refine x_iload (i := 114) (pc' := 236) rfl rfl rfl ?_
                                refine x_iload (i := 115) (pc' := 238) rfl rfl rfl ?_
                                refine m_callV (i := 116) (pc' := 241) (av := [_, _, _]) (rest := []) rfl rfl (by decide) lX12_177 (sh76 G) rfl rfl rfl rfl rfl (Nat.le_of_ble_eq_true rfl) (Nat.le_refl _) (Nat.le_refl _) (s_X12_says hc (csy_0 z1 hc) ?_)
                                dsimp only [psh]
                                refine x_pop (i := 117) (pc' := 242) rfl rfl rfl ?_
                                refine x_iload (i := 118) (pc' := 244) rfl rfl rfl ?_
                                exact m_zreturn (i := 119) rfl rfl (by omega) (by first | exact hQ | (exfalso; omega))
                                skip)
                            skip)
                        · first | (exfalso; omega; done) | skip
                          all_goals (
                            refine x_iconst (i := 106) (pc' := 221) rfl rfl ?_
                            refine x_goto (i := 107) (pc' := 225) rfl (by decide) ?_
                            refine x_istore (L' := [some _, some _, some _, some _, some _, some _, some _, some _, some _]) (i := 109) (pc' := 227) rfl rfl rfl (by decide) rfl ?_
                            refine x_iload (i := 110) (pc' := 229) rfl rfl rfl ?_
                            refine x_ifeq (i := 111) (pc' := 232) (tgt := 242) rfl rfl (by decide) ⟨by omega, by omega⟩ (fun c18 => ?_) (fun c18 => ?_)
                            · first | (exfalso; omega; done) | skip
                              all_goals (
                                refine x_iload (i := 118) (pc' := 244) rfl rfl rfl ?_
                                exact m_zreturn (i := 119) rfl rfl (by omega) (by first | exact hQ | (exfalso; omega))
                                skip)
                            · first | (exfalso; omega; done) | skip
                              all_goals (
                                refine x_aload_n (i := 112) (pc' := 233) rfl rfl rfl rfl ?_
                                refine x_iload_n (i := 113) (pc' := 234) rfl rfl rfl rfl ?_
                                refine x_iload (i := 114) (pc' := 236) rfl rfl rfl ?_
                                refine x_iload (i := 115) (pc' := 238) rfl rfl rfl ?_
                                refine m_callV (i := 116) (pc' := 241) (av := [_, _, _]) (rest := []) rfl rfl (by decide) lX12_177 (sh76 G) rfl rfl rfl rfl rfl (Nat.le_of_ble_eq_true rfl) (Nat.le_refl _) (Nat.le_refl _) (s_X12_says hc (csy_0 z1 hc) ?_)
                                dsimp only [psh]
                                refine x_pop (i := 117) (pc' := 242) rfl rfl rfl ?_
                                refine x_iload (i := 118) (pc' := 244) rfl rfl rfl ?_
                                exact m_zreturn (i := 119) rfl rfl (by omega) (by first | exact hQ | (exfalso; omega))
                                skip)
                            skip)
                        skip)
                    · first | (exfalso; omega; done) | skip
                      all_goals (
                        refine x_iload (i := 96) (pc' := 202) rfl rfl rfl ?_
                        refine x_goto (i := 97) (pc' := 206) rfl (by decide) ?_
                        refine x_istore (L' := [some _, some _, some _, some _, some _, some _, none, some _, some _]) (i := 99) (pc' := 208) rfl rfl rfl (by decide) rfl ?_
                        refine x_aload_n (i := 100) (pc' := 209) rfl rfl rfl rfl ?_
                        refine x_iload_n (i := 101) (pc' := 210) rfl rfl rfl rfl ?_
                        refine x_iload (i := 102) (pc' := 212) rfl rfl rfl ?_
                        refine x_iload (i := 103) (pc' := 214) rfl rfl rfl ?_
                        refine m_callV (i := 104) (pc' := 217) (av := [_, _, _]) (rest := []) rfl rfl (by decide) lX12_174 (sh76 G) rfl rfl rfl rfl rfl (Nat.le_of_ble_eq_true rfl) (Nat.le_refl _) (Nat.le_refl _) (s_X12_canSay hn hc r0 d1 d2 ?_)
                        dsimp only [psh]
                        refine x_ifne (i := 105) (pc' := 220) (tgt := 224) rfl rfl (by decide) ⟨by omega, by omega⟩ (fun c19 => ?_) (fun c19 => ?_)
                        · first | (exfalso; omega; done) | skip
                          all_goals (
                            refine x_iconst (i := 108) (pc' := 225) rfl rfl ?_
                            refine x_istore (L' := [some _, some _, some _, some _, some _, some _, some _, some _, some _]) (i := 109) (pc' := 227) rfl rfl rfl (by decide) rfl ?_
                            refine x_iload (i := 110) (pc' := 229) rfl rfl rfl ?_
                            refine x_ifeq (i := 111) (pc' := 232) (tgt := 242) rfl rfl (by decide) ⟨by omega, by omega⟩ (fun c20 => ?_) (fun c20 => ?_)
                            · first | (exfalso; omega; done) | skip
                              all_goals (
                                refine x_iload (i := 118) (pc' := 244) rfl rfl rfl ?_
                                exact m_zreturn (i := 119) rfl rfl (by omega) (by first | exact hQ | (exfalso; omega))
                                skip)
                            · first | (exfalso; omega; done) | skip
                              all_goals (
                                refine x_aload_n (i := 112) (pc' := 233) rfl rfl rfl rfl ?_
                                refine x_iload_n (i := 113) (pc' := 234) rfl rfl rfl rfl ?_
                                refine x_iload (i := 114) (pc' := 236) rfl rfl rfl ?_
                                refine x_iload (i := 115) (pc' := 238) rfl rfl rfl ?_
                                refine m_callV (i := 116) (pc' := 241) (av := [_, _, _]) (rest := []) rfl rfl (by decide) lX12_177 (sh76 G) rfl rfl rfl rfl rfl (Nat.le_of_ble_eq_true rfl) (Nat.le_refl _) (Nat.le_refl _) (s_X12_says hc (csy_0 z1 hc) ?_)
                                dsimp only [psh]
                                refine x_pop (i := 117) (pc' := 242) rfl rfl rfl ?_
                                refine x_iload (i := 118) (pc' := 244) rfl rfl rfl ?_
                                exact m_zreturn (i := 119) rfl rfl (by omega) (by first | exact hQ | (exfalso; omega))
                                skip)
                            skip)
                        · first | (exfalso; omega; done) | skip
                          all_goals (
                            refine x_iconst (i := 106) (pc' := 221) rfl rfl ?_
                            refine x_goto (i := 107) (pc' := 225) rfl (by decide) ?_
                            refine x_istore (L' := [some _, some _, some _, some _, some _, some _, some _, some _, some _]) (i := 109) (pc' := 227) rfl rfl rfl (by decide) rfl ?_
                            refine x_iload (i := 110) (pc' := 229) rfl rfl rfl ?_
                            refine x_ifeq (i := 111) (pc' := 232) (tgt := 242) rfl rfl (by decide) ⟨by omega, by omega⟩ (fun c21 => ?_) (fun c21 => ?_)
                            · first | (exfalso; omega; done) | skip
                              all_goals (
                                refine x_iload (i := 118) (pc' := 244) rfl rfl rfl ?_
                                exact m_zreturn (i := 119) rfl rfl (by omega) (by first | exact hQ | (exfalso; omega))
                                skip)
                            · first | (exfalso; omega; done) | skip
                              all_goals (
                                refine x_aload_n (i := 112) (pc' := 233) rfl rfl rfl rfl ?_
                                refine x_iload_n (i := 113) (pc' := 234) rfl rfl rfl rfl ?_
                                refine x_iload (i := 114) (pc' := 236) rfl rfl rfl ?_
                                refine x_iload (i := 115) (pc' := 238) rfl rfl rfl ?_
                                refine m_callV (i := 116) (pc' := 241) (av := [_, _, _]) (rest := []) rfl rfl (by decide) lX12_177 (sh76 G) rfl rfl rfl rfl rfl (Nat.le_of_ble_eq_true rfl) (Nat.le_refl _) (Nat.le_refl _) (s_X12_says hc (csy_0 z1 hc) ?_)
                                dsimp only [psh]
                                refine x_pop (i := 117) (pc' := 242) rfl rfl rfl ?_
                                refine x_iload (i := 118) (pc' := 244) rfl rfl rfl ?_
                                exact m_zreturn (i := 119) rfl rfl (by omega) (by first | exact hQ | (exfalso; omega))
                                skip)
                            skip)
                        skip)
                    skip)
                · first | (exfalso; omega; done) | skip
                  all_goals (
                    refine x_iload (i := 88) (pc' := 187) rfl rfl rfl ?_
                    refine x_goto (i := 89) (pc' := 206) rfl (by decide) ?_
                    refine x_istore (L' := [some _, some _, some _, some _, some _, some _, none, some _, some _]) (i := 99) (pc' := 208) rfl rfl rfl (by decide) rfl ?_
                    refine x_aload_n (i := 100) (pc' := 209) rfl rfl rfl rfl ?_
                    refine x_iload_n (i := 101) (pc' := 210) rfl rfl rfl rfl ?_
                    refine x_iload (i := 102) (pc' := 212) rfl rfl rfl ?_
                    refine x_iload (i := 103) (pc' := 214) rfl rfl rfl ?_
                    refine m_callV (i := 104) (pc' := 217) (av := [_, _, _]) (rest := []) rfl rfl (by decide) lX12_174 (sh76 G) rfl rfl rfl rfl rfl (Nat.le_of_ble_eq_true rfl) (Nat.le_refl _) (Nat.le_refl _) (s_X12_canSay hn hc r0 d1 d2 ?_)
                    dsimp only [psh]
                    refine x_ifne (i := 105) (pc' := 220) (tgt := 224) rfl rfl (by decide) ⟨by omega, by omega⟩ (fun c22 => ?_) (fun c22 => ?_)
                    · first | (exfalso; omega; done) | skip
                      all_goals (
                        refine x_iconst (i := 108) (pc' := 225) rfl rfl ?_
                        refine x_istore (L' := [some _, some _, some _, some _, some _, some _, some _, some _, some _]) (i := 109) (pc' := 227) rfl rfl rfl (by decide) rfl ?_
                        refine x_iload (i := 110) (pc' := 229) rfl rfl rfl ?_
                        refine x_ifeq (i := 111) (pc' := 232) (tgt := 242) rfl rfl (by decide) ⟨by omega, by omega⟩ (fun c23 => ?_) (fun c23 => ?_)
                        · first | (exfalso; omega; done) | skip
                          all_goals (
                            refine x_iload (i := 118) (pc' := 244) rfl rfl rfl ?_
                            exact m_zreturn (i := 119) rfl rfl (by omega) (by first | exact hQ | (exfalso; omega))
                            skip)
                        · first | (exfalso; omega; done) | skip
                          all_goals (
                            refine x_aload_n (i := 112) (pc' := 233) rfl rfl rfl rfl ?_
                            refine x_iload_n (i := 113) (pc' := 234) rfl rfl rfl rfl ?_
                            refine x_iload (i := 114) (pc' := 236) rfl rfl rfl ?_
                            refine x_iload (i := 115) (pc' := 238) rfl rfl rfl ?_
                            refine m_callV (i := 116) (pc' := 241) (av := [_, _, _]) (rest := []) rfl rfl (by decide) lX12_177 (sh76 G) rfl rfl rfl rfl rfl (Nat.le_of_ble_eq_true rfl) (Nat.le_refl _) (Nat.le_refl _) (s_X12_says hc (csy_0 z1 hc) ?_)
                            dsimp only [psh]
                            refine x_pop (i := 117) (pc' := 242) rfl rfl rfl ?_
                            refine x_iload (i := 118) (pc' := 244) rfl rfl rfl ?_
                            exact m_zreturn (i := 119) rfl rfl (by omega) (by first | exact hQ | (exfalso; omega))
                            skip)
                        skip)
                    · first | (exfalso; omega; done) | skip
                      all_goals (
                        refine x_iconst (i := 106) (pc' := 221) rfl rfl ?_
                        refine x_goto (i := 107) (pc' := 225) rfl (by decide) ?_
                        refine x_istore (L' := [some _, some _, some _, some _, some _, some _, some _, some _, some _]) (i := 109) (pc' := 227) rfl rfl rfl (by decide) rfl ?_
                        refine x_iload (i := 110) (pc' := 229) rfl rfl rfl ?_
                        refine x_ifeq (i := 111) (pc' := 232) (tgt := 242) rfl rfl (by decide) ⟨by omega, by omega⟩ (fun c24 => ?_) (fun c24 => ?_)
                        · first | (exfalso; omega; done) | skip
                          all_goals (
                            refine x_iload (i := 118) (pc' := 244) rfl rfl rfl ?_
                            exact m_zreturn (i := 119) rfl rfl (by omega) (by first | exact hQ | (exfalso; omega))
                            skip)
                        · first | (exfalso; omega; done) | skip
                          all_goals (
                            refine x_aload_n (i := 112) (pc' := 233) rfl rfl rfl rfl ?_
                            refine x_iload_n (i := 113) (pc' := 234) rfl rfl rfl rfl ?_
                            refine x_iload (i := 114) (pc' := 236) rfl rfl rfl ?_
                            refine x_iload (i := 115) (pc' := 238) rfl rfl rfl ?_
                            refine m_callV (i := 116) (pc' := 241) (av := [_, _, _]) (rest := []) rfl rfl (by decide) lX12_177 (sh76 G) rfl rfl rfl rfl rfl (Nat.le_of_ble_eq_true rfl) (Nat.le_refl _) (Nat.le_refl _) (s_X12_says hc (csy_0 z1 hc) ?_)
                            dsimp only [psh]
                            refine x_pop (i := 117) (pc' := 242) rfl rfl rfl ?_
                            refine x_iload (i := 118) (pc' := 244) rfl rfl rfl ?_
                            exact m_zreturn (i := 119) rfl rfl (by omega) (by first | exact hQ | (exfalso; omega))
                            skip)
                        skip)
                    skip)
                skip)
            skip)
        · first | (exfalso; omega; done) | skip
          all_goals (
            refine x_look (i := 27) (off := 270) (tgt := 308) rfl (by decide) ⟨by omega, by omega⟩ (by simp [Op.lookupswitch.offset]; (repeat' split) <;> omega) (by decide) ?_
            exfalso; omega
            skip)
      · rw [if_neg z1, if_neg z1] at hQ
        unfold dwc at z1
        rw [ef] at d1
        rw [et] at d2
        rw [ef, et] at z1 c2
        refine x_bipush (i := 0) (pc' := 2) rfl rfl (by decide) ?_
        refine x_iload_n (i := 1) (pc' := 3) rfl rfl rfl rfl ?_
        refine x_imul (i := 2) (pc' := 4) rfl rfl ?_
        refine x_istore_n (L' := [some _, some _, some _, none, none, none, none, none, none]) (i := 3) (pc' := 5) rfl rfl rfl rfl (by decide) rfl ?_
        refine x_aload_n (i := 4) (pc' := 6) rfl rfl rfl rfl ?_
        refine m_getf (i := 5) (pc' := 9) rfl rfl flX12_31 (sh76 G) rfl rfl ?_
        refine x_iload_n (i := 6) (pc' := 10) rfl rfl rfl rfl ?_
        refine m_iald (i := 7) (pc' := 11) rfl rfl (sh84 G) (by decide) ⟨by omega, by omega⟩ ?_
        refine x_istore_n (L' := [some _, some _, some _, some _, none, none, none, none, none]) (i := 8) (pc' := 12) rfl rfl rfl rfl (by decide) rfl ?_
        refine x_aload_n (i := 9) (pc' := 13) rfl rfl rfl rfl ?_
        refine m_getf (i := 10) (pc' := 16) rfl rfl flX12_31 (sh76 G) rfl rfl ?_
        refine x_iload_n (i := 11) (pc' := 17) rfl rfl rfl rfl ?_
        refine x_iconst (i := 12) (pc' := 18) rfl rfl ?_
        refine x_iadd (i := 13) (pc' := 19) rfl rfl ?_
        refine m_iald (i := 14) (pc' := 20) rfl rfl (sh84 G) (by decide) ⟨by omega, by omega⟩ ?_
        refine x_istore (L' := [some _, some _, some _, some _, some _, none, none, none, none]) (i := 15) (pc' := 22) rfl rfl rfl (by decide) rfl ?_
        refine x_aload_n (i := 16) (pc' := 23) rfl rfl rfl rfl ?_
        refine m_getf (i := 17) (pc' := 26) rfl rfl flX12_31 (sh76 G) rfl rfl ?_
        refine x_iload_n (i := 18) (pc' := 27) rfl rfl rfl rfl ?_
        refine x_iconst (i := 19) (pc' := 28) rfl rfl ?_
        refine x_iadd (i := 20) (pc' := 29) rfl rfl ?_
        refine m_iald (i := 21) (pc' := 30) rfl rfl (sh84 G) (by decide) ⟨by omega, by omega⟩ ?_
        refine x_istore (L' := [some _, some _, some _, some _, some _, some _, none, none, none]) (i := 22) (pc' := 32) rfl rfl rfl (by decide) rfl ?_
        refine x_aload_n (i := 23) (pc' := 33) rfl rfl rfl rfl ?_
        refine m_getf (i := 24) (pc' := 36) rfl rfl flX12_25 (sh76 G) rfl rfl ?_
        refine x_iload_n (i := 25) (pc' := 37) rfl rfl rfl rfl ?_
        refine m_iald (i := 26) (pc' := 38) rfl rfl (sh82 G) (by decide) ⟨by omega, by omega⟩ ?_
        rcases (by omega : m 82 k = 100 ∨ m 82 k = 103 ∨ m 82 k = 108 ∨ m 82 k = 115 ∨ m 82 k = 119 ∨ (¬ m 82 k = 100 ∧ ¬ m 82 k = 103 ∧ ¬ m 82 k = 108 ∧ ¬ m 82 k = 115 ∧ ¬ m 82 k = 119)) with c1 | c1 | c1 | c1 | c1 | c1
        · first | (exfalso; omega; done) | skip
          all_goals (
            refine x_look (i := 27) (off := 241) (tgt := 279) rfl (by decide) ⟨by omega, by omega⟩ (by rw [c1]; rfl) (by decide) ?_
            exfalso; omega
            skip)
        · first | (exfalso; omega; done) | skip
          all_goals (
            refine x_look (i := 27) (off := 207) (tgt := 245) rfl (by decide) ⟨by omega, by omega⟩ (by rw [c1]; rfl) (by decide) ?_
            exfalso; omega
            skip)
        · first | (exfalso; omega; done) | skip
          all_goals (
            refine x_look (i := 27) (off := 235) (tgt := 273) rfl (by decide) ⟨by omega, by omega⟩ (by rw [c1]; rfl) (by decide) ?_
            exfalso; omega
            skip)
        · first | (exfalso; omega; done) | skip
          all_goals (
            refine x_look (i := 27) (off := 50) (tgt := 88) rfl (by decide) ⟨by omega, by omega⟩ (by rw [c1]; rfl) (by decide) ?_
            exfalso; omega
            skip)
        · first | (exfalso; omega; done) | skip
          all_goals (
            refine x_look (i := 27) (off := 119) (tgt := 157) rfl (by decide) ⟨by omega, by omega⟩ (by rw [c1]; rfl) (by decide) ?_
            refine x_aload_n (i := 72) (pc' := 158) rfl rfl rfl rfl ?_
            refine m_getf (i := 73) (pc' := 161) rfl rfl flX12_28 (sh76 G) rfl rfl ?_
            refine x_iload_n (i := 74) (pc' := 162) rfl rfl rfl rfl ?_
            refine m_iald (i := 75) (pc' := 163) rfl rfl (sh83 G) (by decide) ⟨by omega, by omega⟩ ?_
            refine x_iconst (i := 76) (pc' := 164) rfl rfl ?_
            refine x_icmpne (i := 77) (pc' := 167) (tgt := 172) rfl rfl (by decide) ⟨by omega, by omega⟩ ⟨by omega, by omega⟩ (fun c2 => ?_) (fun c2 => ?_)
            · first | (exfalso; omega; done) | skip
              all_goals (
                refine x_iconst (i := 80) (pc' := 173) rfl rfl ?_
                refine x_istore (L' := [some _, some _, some _, some _, some _, some _, none, some _, none]) (i := 81) (pc' := 175) rfl rfl rfl (by decide) rfl ?_
                refine x_aload_n (i := 82) (pc' := 176) rfl rfl rfl rfl ?_
                refine m_getf (i := 83) (pc' := 179) rfl rfl flX12_28 (sh76 G) rfl rfl ?_
                refine x_iload_n (i := 84) (pc' := 180) rfl rfl rfl rfl ?_
                refine m_iald (i := 85) (pc' := 181) rfl rfl (sh83 G) (by decide) ⟨by omega, by omega⟩ ?_
                refine x_iconst (i := 86) (pc' := 182) rfl rfl ?_
                refine x_icmpne (i := 87) (pc' := 185) (tgt := 190) rfl rfl (by decide) ⟨by omega, by omega⟩ ⟨by omega, by omega⟩ (fun c3 => ?_) (fun c3 => ?_)
                · first | (exfalso; omega; done) | skip
                  all_goals (
                    refine x_aload_n (i := 90) (pc' := 191) rfl rfl rfl rfl ?_
                    refine m_getf (i := 91) (pc' := 194) rfl rfl flX12_28 (sh76 G) rfl rfl ?_
                    refine x_iload_n (i := 92) (pc' := 195) rfl rfl rfl rfl ?_
                    refine m_iald (i := 93) (pc' := 196) rfl rfl (sh83 G) (by decide) ⟨by omega, by omega⟩ ?_
                    refine x_iconst (i := 94) (pc' := 197) rfl rfl ?_
                    refine x_icmpne (i := 95) (pc' := 200) (tgt := 205) rfl rfl (by decide) ⟨by omega, by omega⟩ ⟨by omega, by omega⟩ (fun c4 => ?_) (fun c4 => ?_)
                    · first | (exfalso; omega; done) | skip
                      all_goals (
                        refine x_iconst (i := 98) (pc' := 206) rfl rfl ?_
                        refine x_istore (L' := [some _, some _, some _, some _, some _, some _, none, some _, some _]) (i := 99) (pc' := 208) rfl rfl rfl (by decide) rfl ?_
                        refine x_aload_n (i := 100) (pc' := 209) rfl rfl rfl rfl ?_
                        refine x_iload_n (i := 101) (pc' := 210) rfl rfl rfl rfl ?_
                        refine x_iload (i := 102) (pc' := 212) rfl rfl rfl ?_
                        refine x_iload (i := 103) (pc' := 214) rfl rfl rfl ?_
                        refine m_callV (i := 104) (pc' := 217) (av := [_, _, _]) (rest := []) rfl rfl (by decide) lX12_174 (sh76 G) rfl rfl rfl rfl rfl (Nat.le_of_ble_eq_true rfl) (Nat.le_refl _) (Nat.le_refl _) (s_X12_canSay hn hc r0 d1 d2 ?_)
                        dsimp only [psh]
                        refine x_ifne (i := 105) (pc' := 220) (tgt := 224) rfl rfl (by decide) ⟨by omega, by omega⟩ (fun c5 => ?_) (fun c5 => ?_)
                        · first | (exfalso; omega; done) | skip
                          all_goals (
                            refine x_iconst (i := 108) (pc' := 225) rfl rfl ?_
                            refine x_istore (L' := [some _, some _, some _, some _, some _, some _, some _, some _, some _]) (i := 109) (pc' := 227) rfl rfl rfl (by decide) rfl ?_
                            refine x_iload (i := 110) (pc' := 229) rfl rfl rfl ?_
                            refine x_ifeq (i := 111) (pc' := 232) (tgt := 242) rfl rfl (by decide) ⟨by omega, by omega⟩ (fun c6 => ?_) (fun c6 => ?_)
                            · first | (exfalso; omega; done) | skip
                              all_goals (
                                refine x_iload (i := 118) (pc' := 244) rfl rfl rfl ?_
                                exact m_zreturn (i := 119) rfl rfl (by omega) (by first | exact hQ | (exfalso; omega))
                                skip)
                            · first | (exfalso; omega; done) | skip
                              all_goals (
                                refine x_aload_n (i := 112) (pc' := 233) rfl rfl rfl rfl ?_
                                refine x_iload_n (i := 113) (pc' := 234) rfl rfl rfl rfl ?_
                                refine x_iload (i := 114) (pc' := 236) rfl rfl rfl ?_
                                refine x_iload (i := 115) (pc' := 238) rfl rfl rfl ?_
                                refine m_callV (i := 116) (pc' := 241) (av := [_, _, _]) (rest := []) rfl rfl (by decide) lX12_177 (sh76 G) rfl rfl rfl rfl rfl (Nat.le_of_ble_eq_true rfl) (Nat.le_refl _) (Nat.le_refl _) (s_X12_says hc (csy_0 z1 hc) ?_)
                                dsimp only [psh]
                                refine x_pop (i := 117) (pc' := 242) rfl rfl rfl ?_
                                refine x_iload (i := 118) (pc' := 244) rfl rfl rfl ?_
                                exact m_zreturn (i := 119) rfl rfl (by omega) (by first | exact hQ | (exfalso; omega))
                                skip)
                            skip)
                        · first | (exfalso; omega; done) | skip
                          all_goals (
                            refine x_iconst (i := 106) (pc' := 221) rfl rfl ?_
                            refine x_goto (i := 107) (pc' := 225) rfl (by decide) ?_
                            refine x_istore (L' := [some _, some _, some _, some _, some _, some _, some _, some _, some _]) (i := 109) (pc' := 227) rfl rfl rfl (by decide) rfl ?_
                            refine x_iload (i := 110) (pc' := 229) rfl rfl rfl ?_
                            refine x_ifeq (i := 111) (pc' := 232) (tgt := 242) rfl rfl (by decide) ⟨by omega, by omega⟩ (fun c7 => ?_) (fun c7 => ?_)
                            · first | (exfalso; omega; done) | skip
                              all_goals (
                                refine x_iload (i := 118) (pc' := 244) rfl rfl rfl ?_
                                exact m_zreturn (i := 119) rfl rfl (by omega) (by first | exact hQ | (exfalso; omega))
                                skip)
                            · first | (exfalso; omega; done) | skip
                              all_goals (
                                refine x_aload_n (i := 112) (pc' := 233) rfl rfl rfl rfl ?_
                                refine x_iload_n (i := 113) (pc' := 234) rfl rfl rfl rfl ?_
                                refine x_iload (i := 114) (pc' := 236) rfl rfl rfl ?_
                                refine x_iload (i := 115) (pc' := 238) rfl rfl rfl ?_
                                refine m_callV (i := 116) (pc' := 241) (av := [_, _, _]) (rest := []) rfl rfl (by decide) lX12_177 (sh76 G) rfl rfl rfl rfl rfl (Nat.le_of_ble_eq_true rfl) (Nat.le_refl _) (Nat.le_refl _) (s_X12_says hc (csy_0 z1 hc) ?_)
                                dsimp only [psh]
                                refine x_pop (i := 117) (pc' := 242) rfl rfl rfl ?_
                                refine x_iload (i := 118) (pc' := 244) rfl rfl rfl ?_
                                exact m_zreturn (i := 119) rfl rfl (by omega) (by first | exact hQ | (exfalso; omega))
                                skip)
                            skip)
                        skip)
                    · first | (exfalso; omega; done) | skip
                      all_goals (
                        refine x_iload (i := 96) (pc' := 202) rfl rfl rfl ?_
                        refine x_goto (i := 97) (pc' := 206) rfl (by decide) ?_
                        refine x_istore (L' := [some _, some _, some _, some _, some _, some _, none, some _, some _]) (i := 99) (pc' := 208) rfl rfl rfl (by decide) rfl ?_
                        refine x_aload_n (i := 100) (pc' := 209) rfl rfl rfl rfl ?_
                        refine x_iload_n (i := 101) (pc' := 210) rfl rfl rfl rfl ?_
                        refine x_iload (i := 102) (pc' := 212) rfl rfl rfl ?_
                        refine x_iload (i := 103) (pc' := 214) rfl rfl rfl ?_
                        refine m_callV (i := 104) (pc' := 217) (av := [_, _, _]) (rest := []) rfl rfl (by decide) lX12_174 (sh76 G) rfl rfl rfl rfl rfl (Nat.le_of_ble_eq_true rfl) (Nat.le_refl _) (Nat.le_refl _) (s_X12_canSay hn hc r0 d1 d2 ?_)
                        dsimp only [psh]
                        refine x_ifne (i := 105) (pc' := 220) (tgt := 224) rfl rfl (by decide) ⟨by omega, by omega⟩ (fun c8 => ?_) (fun c8 => ?_)
                        · first | (exfalso; omega; done) | skip
                          all_goals (
                            refine x_iconst (i := 108) (pc' := 225) rfl rfl ?_
                            refine x_istore (L' := [some _, some _, some _, some _, some _, some _, some _, some _, some _]) (i := 109) (pc' := 227) rfl rfl rfl (by decide) rfl ?_
                            refine x_iload (i := 110) (pc' := 229) rfl rfl rfl ?_
                            refine x_ifeq (i := 111) (pc' := 232) (tgt := 242) rfl rfl (by decide) ⟨by omega, by omega⟩ (fun c9 => ?_) (fun c9 => ?_)
                            · first | (exfalso; omega; done) | skip
                              all_goals (
                                refine x_iload (i := 118) (pc' := 244) rfl rfl rfl ?_
                                exact m_zreturn (i := 119) rfl rfl (by omega) (by first | exact hQ | (exfalso; omega))
                                skip)
                            · first | (exfalso; omega; done) | skip
                              all_goals (
                                refine x_aload_n (i := 112) (pc' := 233) rfl rfl rfl rfl ?_
                                refine x_iload_n (i := 113) (pc' := 234) rfl rfl rfl rfl ?_
                                refine x_iload (i := 114) (pc' := 236) rfl rfl rfl ?_
                                refine x_iload (i := 115) (pc' := 238) rfl rfl rfl ?_
                                refine m_callV (i := 116) (pc' := 241) (av := [_, _, _]) (rest := []) rfl rfl (by decide) lX12_177 (sh76 G) rfl rfl rfl rfl rfl (Nat.le_of_ble_eq_true rfl) (Nat.le_refl _) (Nat.le_refl _) (s_X12_says hc (csy_0 z1 hc) ?_)
                                dsimp only [psh]
                                refine x_pop (i := 117) (pc' := 242) rfl rfl rfl ?_
                                refine x_iload (i := 118) (pc' := 244) rfl rfl rfl ?_
                                exact m_zreturn (i := 119) rfl rfl (by omega) (by first | exact hQ | (exfalso; omega))
                                skip)
                            skip)
                        · first | (exfalso; omega; done) | skip
                          all_goals (
                            refine x_iconst (i := 106) (pc' := 221) rfl rfl ?_
                            refine x_goto (i := 107) (pc' := 225) rfl (by decide) ?_
                            refine x_istore (L' := [some _, some _, some _, some _, some _, some _, some _, some _, some _]) (i := 109) (pc' := 227) rfl rfl rfl (by decide) rfl ?_
                            refine x_iload (i := 110) (pc' := 229) rfl rfl rfl ?_
                            refine x_ifeq (i := 111) (pc' := 232) (tgt := 242) rfl rfl (by decide) ⟨by omega, by omega⟩ (fun c10 => ?_) (fun c10 => ?_)
                            · first | (exfalso; omega; done) | skip
                              all_goals (
                                refine x_iload (i := 118) (pc' := 244) rfl rfl rfl ?_
                                exact m_zreturn (i := 119) rfl rfl (by omega) (by first | exact hQ | (exfalso; omega))
                                skip)
                            · first | (exfalso; omega; done) | skip
                              all_goals (
                                refine x_aload_n (i := 112) (pc' := 233) rfl rfl rfl rfl ?_
                                refine x_iload_n (i := 113) (pc' := 234) rfl rfl rfl rfl ?_
                                refine x_iload (i := 114) (pc' := 236) rfl rfl rfl ?_
                                refine x_iload (i := 115) (pc' := 238) rfl rfl rfl ?_
                                refine m_callV (i := 116) (pc' := 241) (av := [_, _, _]) (rest := []) rfl rfl (by decide) lX12_177 (sh76 G) rfl rfl rfl rfl rfl (Nat.le_of_ble_eq_true rfl) (Nat.le_refl _) (Nat.le_refl _) (s_X12_says hc (csy_0 z1 hc) ?_)
                                dsimp only [psh]
                                refine x_pop (i := 117) (pc' := 242) rfl rfl rfl ?_
                                refine x_iload (i := 118) (pc' := 244) rfl rfl rfl ?_
                                exact m_zreturn (i := 119) rfl rfl (by omega) (by first | exact hQ | (exfalso; omega))
                                skip)
                            skip)
                        skip)
                    skip)
                · first | (exfalso; omega; done) | skip
                  all_goals (
                    refine x_iload (i := 88) (pc' := 187) rfl rfl rfl ?_
                    refine x_goto (i := 89) (pc' := 206) rfl (by decide) ?_
                    refine x_istore (L' := [some _, some _, some _, some _, some _, some _, none, some _, some _]) (i := 99) (pc' := 208) rfl rfl rfl (by decide) rfl ?_
                    refine x_aload_n (i := 100) (pc' := 209) rfl rfl rfl rfl ?_
                    refine x_iload_n (i := 101) (pc' := 210) rfl rfl rfl rfl ?_
                    refine x_iload (i := 102) (pc' := 212) rfl rfl rfl ?_
                    refine x_iload (i := 103) (pc' := 214) rfl rfl rfl ?_
                    refine m_callV (i := 104) (pc' := 217) (av := [_, _, _]) (rest := []) rfl rfl (by decide) lX12_174 (sh76 G) rfl rfl rfl rfl rfl (Nat.le_of_ble_eq_true rfl) (Nat.le_refl _) (Nat.le_refl _) (s_X12_canSay hn hc r0 d1 d2 ?_)
                    dsimp only [psh]
                    refine x_ifne (i := 105) (pc' := 220) (tgt := 224) rfl rfl (by decide) ⟨by omega, by omega⟩ (fun c11 => ?_) (fun c11 => ?_)
                    · first | (exfalso; omega; done) | skip
                      all_goals (
                        refine x_iconst (i := 108) (pc' := 225) rfl rfl ?_
                        refine x_istore (L' := [some _, some _, some _, some _, some _, some _, some _, some _, some _]) (i := 109) (pc' := 227) rfl rfl rfl (by decide) rfl ?_
                        refine x_iload (i := 110) (pc' := 229) rfl rfl rfl ?_
                        refine x_ifeq (i := 111) (pc' := 232) (tgt := 242) rfl rfl (by decide) ⟨by omega, by omega⟩ (fun c12 => ?_) (fun c12 => ?_)
                        · first | (exfalso; omega; done) | skip
                          all_goals (
                            refine x_iload (i := 118) (pc' := 244) rfl rfl rfl ?_
                            exact m_zreturn (i := 119) rfl rfl (by omega) (by first | exact hQ | (exfalso; omega))
                            skip)
                        · first | (exfalso; omega; done) | skip
                          all_goals (
                            refine x_aload_n (i := 112) (pc' := 233) rfl rfl rfl rfl ?_
                            refine x_iload_n (i := 113) (pc' := 234) rfl rfl rfl rfl ?_
                            refine x_iload (i := 114) (pc' := 236) rfl rfl rfl ?_
                            refine x_iload (i := 115) (pc' := 238) rfl rfl rfl ?_
                            refine m_callV (i := 116) (pc' := 241) (av := [_, _, _]) (rest := []) rfl rfl (by decide) lX12_177 (sh76 G) rfl rfl rfl rfl rfl (Nat.le_of_ble_eq_true rfl) (Nat.le_refl _) (Nat.le_refl _) (s_X12_says hc (csy_0 z1 hc) ?_)
                            dsimp only [psh]
                            refine x_pop (i := 117) (pc' := 242) rfl rfl rfl ?_
                            refine x_iload (i := 118) (pc' := 244) rfl rfl rfl ?_
                            exact m_zreturn (i := 119) rfl rfl (by omega) (by first | exact hQ | (exfalso; omega))
                            skip)
                        skip)
                    · first | (exfalso; omega; done) | skip
                      all_goals (
                        refine x_iconst (i := 106) (pc' := 221) rfl rfl ?_
                        refine x_goto (i := 107) (pc' := 225) rfl (by decide) ?_
                        refine x_istore (L' := [some _, some _, some _, some _, some _, some _, some _, some _, some _]) (i := 109) (pc' := 227) rfl rfl rfl (by decide) rfl ?_
                        refine x_iload (i := 110) (pc' := 229) rfl rfl rfl ?_
                        refine x_ifeq (i := 111) (pc' := 232) (tgt := 242) rfl rfl (by decide) ⟨by omega, by omega⟩ (fun c13 => ?_) (fun c13 => ?_)
                        · first | (exfalso; omega; done) | skip
                          all_goals (
                            refine x_iload (i := 118) (pc' := 244) rfl rfl rfl ?_
                            exact m_zreturn (i := 119) rfl rfl (by omega) (by first | exact hQ | (exfalso; omega))
                            skip)
                        · first | (exfalso; omega; done) | skip
                          all_goals (
                            refine x_aload_n (i := 112) (pc' := 233) rfl rfl rfl rfl ?_
                            refine x_iload_n (i := 113) (pc' := 234) rfl rfl rfl rfl ?_
                            refine x_iload (i := 114) (pc' := 236) rfl rfl rfl ?_
                            refine x_iload (i := 115) (pc' := 238) rfl rfl rfl ?_
                            refine m_callV (i := 116) (pc' := 241) (av := [_, _, _]) (rest := []) rfl rfl (by decide) lX12_177 (sh76 G) rfl rfl rfl rfl rfl (Nat.le_of_ble_eq_true rfl) (Nat.le_refl _) (Nat.le_refl _) (s_X12_says hc (csy_0 z1 hc) ?_)
                            dsimp only [psh]
                            refine x_pop (i := 117) (pc' := 242) rfl rfl rfl ?_
                            refine x_iload (i := 118) (pc' := 244) rfl rfl rfl ?_
                            exact m_zreturn (i := 119) rfl rfl (by omega) (by first | exact hQ | (exfalso; omega))
                            skip)
                        skip)
                    skip)
                skip)
            · first | (exfalso; omega; done) | skip
              all_goals (
                refine x_iload (i := 78) (pc' := 169) rfl rfl rfl ?_
                refine x_goto (i := 79) (pc' := 173) rfl (by decide) ?_
                refine x_istore (L' := [some _, some _, some _, some _, some _, some _, none, some _, none]) (i := 81) (pc' := 175) rfl rfl rfl (by decide) rfl ?_
                refine x_aload_n (i := 82) (pc' := 176) rfl rfl rfl rfl ?_
                refine m_getf (i := 83) (pc' := 179) rfl rfl flX12_28 (sh76 G) rfl rfl ?_
                refine x_iload_n (i := 84) (pc' := 180) rfl rfl rfl rfl ?_
                refine m_iald (i := 85) (pc' := 181) rfl rfl (sh83 G) (by decide) ⟨by omega, by omega⟩ ?_
                refine x_iconst (i := 86) (pc' := 182) rfl rfl ?_
                refine x_icmpne (i := 87) (pc' := 185) (tgt := 190) rfl rfl (by decide) ⟨by omega, by omega⟩ ⟨by omega, by omega⟩ (fun c14 => ?_) (fun c14 => ?_)
                · first | (exfalso; omega; done) | skip
                  all_goals (
                    refine x_aload_n (i := 90) (pc' := 191) rfl rfl rfl rfl ?_
                    refine m_getf (i := 91) (pc' := 194) rfl rfl flX12_28 (sh76 G) rfl rfl ?_
                    refine x_iload_n (i := 92) (pc' := 195) rfl rfl rfl rfl ?_
                    refine m_iald (i := 93) (pc' := 196) rfl rfl (sh83 G) (by decide) ⟨by omega, by omega⟩ ?_
                    refine x_iconst (i := 94) (pc' := 197) rfl rfl ?_
                    refine x_icmpne (i := 95) (pc' := 200) (tgt := 205) rfl rfl (by decide) ⟨by omega, by omega⟩ ⟨by omega, by omega⟩ (fun c15 => ?_) (fun c15 => ?_)
                    · first | (exfalso; omega; done) | skip
                      all_goals (
                        refine x_iconst (i := 98) (pc' := 206) rfl rfl ?_
                        refine x_istore (L' := [some _, some _, some _, some _, some _, some _, none, some _, some _]) (i := 99) (pc' := 208) rfl rfl rfl (by decide) rfl ?_
                        refine x_aload_n (i := 100) (pc' := 209) rfl rfl rfl rfl ?_
                        refine x_iload_n (i := 101) (pc' := 210) rfl rfl rfl rfl ?_
                        refine x_iload (i := 102) (pc' := 212) rfl rfl rfl ?_
                        refine x_iload (i := 103) (pc' := 214) rfl rfl rfl ?_
                        refine m_callV (i := 104) (pc' := 217) (av := [_, _, _]) (rest := []) rfl rfl (by decide) lX12_174 (sh76 G) rfl rfl rfl rfl rfl (Nat.le_of_ble_eq_true rfl) (Nat.le_refl _) (Nat.le_refl _) (s_X12_canSay hn hc r0 d1 d2 ?_)
                        dsimp only [psh]
                        refine x_ifne (i := 105) (pc' := 220) (tgt := 224) rfl rfl (by decide) ⟨by omega, by omega⟩ (fun c16 => ?_) (fun c16 => ?_)
                        · first | (exfalso; omega; done) | skip
                          all_goals (
                            refine x_iconst (i := 108) (pc' := 225) rfl rfl ?_
                            refine x_istore (L' := [some _, some _, some _, some _, some _, some _, some _, some _, some _]) (i := 109) (pc' := 227) rfl rfl rfl (by decide) rfl ?_
                            refine x_iload (i := 110) (pc' := 229) rfl rfl rfl ?_
                            refine x_ifeq (i := 111) (pc' := 232) (tgt := 242) rfl rfl (by decide) ⟨by omega, by omega⟩ (fun c17 => ?_) (fun c17 => ?_)
                            · first | (exfalso; omega; done) | skip
                              all_goals (
                                refine x_iload (i := 118) (pc' := 244) rfl rfl rfl ?_
                                exact m_zreturn (i := 119) rfl rfl (by omega) (by first | exact hQ | (exfalso; omega))
                                skip)
                            · first | (exfalso; omega; done) | skip
                              all_goals (
                                refine x_aload_n (i := 112) (pc' := 233) rfl rfl rfl rfl ?_
                                refine x_iload_n (i := 113) (pc' := 234) rfl rfl rfl rfl ?_
                                refine x_iload (i := 114) (pc' := 236) rfl rfl rfl ?_
                                refine x_iload (i := 115) (pc' := 238) rfl rfl rfl ?_
                                refine m_callV (i := 116) (pc' := 241) (av := [_, _, _]) (rest := []) rfl rfl (by decide) lX12_177 (sh76 G) rfl rfl rfl rfl rfl (Nat.le_of_ble_eq_true rfl) (Nat.le_refl _) (Nat.le_refl _) (s_X12_says hc (csy_0 z1 hc) ?_)
                                dsimp only [psh]
                                refine x_pop (i := 117) (pc' := 242) rfl rfl rfl ?_
                                refine x_iload (i := 118) (pc' := 244) rfl rfl rfl ?_
                                exact m_zreturn (i := 119) rfl rfl (by omega) (by first | exact hQ | (exfalso; omega))
                                skip)
                            skip)
                        · first | (exfalso; omega; done) | skip
                          all_goals (
                            refine x_iconst (i := 106) (pc' := 221) rfl rfl ?_
                            refine x_goto (i := 107) (pc' := 225) rfl (by decide) ?_
                            refine x_istore (L' := [some _, some _, some _, some _, some _, some _, some _, some _, some _]) (i := 109) (pc' := 227) rfl rfl rfl (by decide) rfl ?_
                            refine x_iload (i := 110) (pc' := 229) rfl rfl rfl ?_
                            refine x_ifeq (i := 111) (pc' := 232) (tgt := 242) rfl rfl (by decide) ⟨by omega, by omega⟩ (fun c18 => ?_) (fun c18 => ?_)
                            · first | (exfalso; omega; done) | skip
                              all_goals (
                                refine x_iload (i := 118) (pc' := 244) rfl rfl rfl ?_
                                exact m_zreturn (i := 119) rfl rfl (by omega) (by first | exact hQ | (exfalso; omega))
                                skip)
                            · first | (exfalso; omega; done) | skip
                              all_goals (
                                refine x_aload_n (i := 112) (pc' := 233) rfl rfl rfl rfl ?_
                                refine x_iload_n (i := 113) (pc' := 234) rfl rfl rfl rfl ?_
                                refine x_iload (i := 114) (pc' := 236) rfl rfl rfl ?_
                                refine x_iload (i := 115) (pc' := 238) rfl rfl rfl ?_
                                refine m_callV (i := 116) (pc' := 241) (av := [_, _, _]) (rest := []) rfl rfl (by decide) lX12_177 (sh76 G) rfl rfl rfl rfl rfl (Nat.le_of_ble_eq_true rfl) (Nat.le_refl _) (Nat.le_refl _) (s_X12_says hc (csy_0 z1 hc) ?_)
                                dsimp only [psh]
                                refine x_pop (i := 117) (pc' := 242) rfl rfl rfl ?_
                                refine x_iload (i := 118) (pc' := 244) rfl rfl rfl ?_
                                exact m_zreturn (i := 119) rfl rfl (by omega) (by first | exact hQ | (exfalso; omega))
                                skip)
                            skip)
                        skip)
                    · first | (exfalso; omega; done) | skip
                      all_goals (
                        refine x_iload (i := 96) (pc' := 202) rfl rfl rfl ?_
                        refine x_goto (i := 97) (pc' := 206) rfl (by decide) ?_
                        refine x_istore (L' := [some _, some _, some _, some _, some _, some _, none, some _, some _]) (i := 99) (pc' := 208) rfl rfl rfl (by decide) rfl ?_
                        refine x_aload_n (i := 100) (pc' := 209) rfl rfl rfl rfl ?_
                        refine x_iload_n (i := 101) (pc' := 210) rfl rfl rfl rfl ?_
                        refine x_iload (i := 102) (pc' := 212) rfl rfl rfl ?_
                        refine x_iload (i := 103) (pc' := 214) rfl rfl rfl ?_
                        refine m_callV (i := 104) (pc' := 217) (av := [_, _, _]) (rest := []) rfl rfl (by decide) lX12_174 (sh76 G) rfl rfl rfl rfl rfl (Nat.le_of_ble_eq_true rfl) (Nat.le_refl _) (Nat.le_refl _) (s_X12_canSay hn hc r0 d1 d2 ?_)
                        dsimp only [psh]
                        refine x_ifne (i := 105) (pc' := 220) (tgt := 224) rfl rfl (by decide) ⟨by omega, by omega⟩ (fun c19 => ?_) (fun c19 => ?_)
                        · first | (exfalso; omega; done) | skip
                          all_goals (
                            refine x_iconst (i := 108) (pc' := 225) rfl rfl ?_
                            refine x_istore (L' := [some _, some _, some _, some _, some _, some _, some _, some _, some _]) (i := 109) (pc' := 227) rfl rfl rfl (by decide) rfl ?_
                            refine x_iload (i := 110) (pc' := 229) rfl rfl rfl ?_
                            refine x_ifeq (i := 111) (pc' := 232) (tgt := 242) rfl rfl (by decide) ⟨by omega, by omega⟩ (fun c20 => ?_) (fun c20 => ?_)
                            · first | (exfalso; omega; done) | skip
                              all_goals (
                                refine x_iload (i := 118) (pc' := 244) rfl rfl rfl ?_
                                exact m_zreturn (i := 119) rfl rfl (by omega) (by first | exact hQ | (exfalso; omega))
                                skip)
                            · first | (exfalso; omega; done) | skip
                              all_goals (
                                refine x_aload_n (i := 112) (pc' := 233) rfl rfl rfl rfl ?_
                                refine x_iload_n (i := 113) (pc' := 234) rfl rfl rfl rfl ?_
                                refine x_iload (i := 114) (pc' := 236) rfl rfl rfl ?_
                                refine x_iload (i := 115) (pc' := 238) rfl rfl rfl ?_
                                refine m_callV (i := 116) (pc' := 241) (av := [_, _, _]) (rest := []) rfl rfl (by decide) lX12_177 (sh76 G) rfl rfl rfl rfl rfl (Nat.le_of_ble_eq_true rfl) (Nat.le_refl _) (Nat.le_refl _) (s_X12_says hc (csy_0 z1 hc) ?_)
                                dsimp only [psh]
                                refine x_pop (i := 117) (pc' := 242) rfl rfl rfl ?_
                                refine x_iload (i := 118) (pc' := 244) rfl rfl rfl ?_
                                exact m_zreturn (i := 119) rfl rfl (by omega) (by first | exact hQ | (exfalso; omega))
                                skip)
                            skip)
                        · first | (exfalso; omega; done) | skip
                          all_goals (
                            refine x_iconst (i := 106) (pc' := 221) rfl rfl ?_
                            refine x_goto (i := 107) (pc' := 225) rfl (by decide) ?_
                            refine x_istore (L' := [some _, some _, some _, some _, some _, some _, some _, some _, some _]) (i := 109) (pc' := 227) rfl rfl rfl (by decide) rfl ?_
                            refine x_iload (i := 110) (pc' := 229) rfl rfl rfl ?_
                            refine x_ifeq (i := 111) (pc' := 232) (tgt := 242) rfl rfl (by decide) ⟨by omega, by omega⟩ (fun c21 => ?_) (fun c21 => ?_)
                            · first | (exfalso; omega; done) | skip
                              all_goals (
                                refine x_iload (i := 118) (pc' := 244) rfl rfl rfl ?_
                                exact m_zreturn (i := 119) rfl rfl (by omega) (by first | exact hQ | (exfalso; omega))
                                skip)
                            · first | (exfalso; omega; done) | skip
                              all_goals (
                                refine x_aload_n (i := 112) (pc' := 233) rfl rfl rfl rfl ?_
                                refine x_iload_n (i := 113) (pc' := 234) rfl rfl rfl rfl ?_
                                refine x_iload (i := 114) (pc' := 236) rfl rfl rfl ?_
                                refine x_iload (i := 115) (pc' := 238) rfl rfl rfl ?_
                                refine m_callV (i := 116) (pc' := 241) (av := [_, _, _]) (rest := []) rfl rfl (by decide) lX12_177 (sh76 G) rfl rfl rfl rfl rfl (Nat.le_of_ble_eq_true rfl) (Nat.le_refl _) (Nat.le_refl _) (s_X12_says hc (csy_0 z1 hc) ?_)
                                dsimp only [psh]
                                refine x_pop (i := 117) (pc' := 242) rfl rfl rfl ?_
                                refine x_iload (i := 118) (pc' := 244) rfl rfl rfl ?_
                                exact m_zreturn (i := 119) rfl rfl (by omega) (by first | exact hQ | (exfalso; omega))
                                skip)
                            skip)
                        skip)
                    skip)
                · first | (exfalso; omega; done) | skip
                  all_goals (
                    refine x_iload (i := 88) (pc' := 187) rfl rfl rfl ?_
                    refine x_goto (i := 89) (pc' := 206) rfl (by decide) ?_
                    refine x_istore (L' := [some _, some _, some _, some _, some _, some _, none, some _, some _]) (i := 99) (pc' := 208) rfl rfl rfl (by decide) rfl ?_
                    refine x_aload_n (i := 100) (pc' := 209) rfl rfl rfl rfl ?_
                    refine x_iload_n (i := 101) (pc' := 210) rfl rfl rfl rfl ?_
                    refine x_iload (i := 102) (pc' := 212) rfl rfl rfl ?_
                    refine x_iload (i := 103) (pc' := 214) rfl rfl rfl ?_
                    refine m_callV (i := 104) (pc' := 217) (av := [_, _, _]) (rest := []) rfl rfl (by decide) lX12_174 (sh76 G) rfl rfl rfl rfl rfl (Nat.le_of_ble_eq_true rfl) (Nat.le_refl _) (Nat.le_refl _) (s_X12_canSay hn hc r0 d1 d2 ?_)
                    dsimp only [psh]
                    refine x_ifne (i := 105) (pc' := 220) (tgt := 224) rfl rfl (by decide) ⟨by omega, by omega⟩ (fun c22 => ?_) (fun c22 => ?_)
                    · first | (exfalso; omega; done) | skip
                      all_goals (
                        refine x_iconst (i := 108) (pc' := 225) rfl rfl ?_
                        refine x_istore (L' := [some _, some _, some _, some _, some _, some _, some _, some _, some _]) (i := 109) (pc' := 227) rfl rfl rfl (by decide) rfl ?_
                        refine x_iload (i := 110) (pc' := 229) rfl rfl rfl ?_
                        refine x_ifeq (i := 111) (pc' := 232) (tgt := 242) rfl rfl (by decide) ⟨by omega, by omega⟩ (fun c23 => ?_) (fun c23 => ?_)
                        · first | (exfalso; omega; done) | skip
                          all_goals (
                            refine x_iload (i := 118) (pc' := 244) rfl rfl rfl ?_
                            exact m_zreturn (i := 119) rfl rfl (by omega) (by first | exact hQ | (exfalso; omega))
                            skip)
                        · first | (exfalso; omega; done) | skip
                          all_goals (
                            refine x_aload_n (i := 112) (pc' := 233) rfl rfl rfl rfl ?_
                            refine x_iload_n (i := 113) (pc' := 234) rfl rfl rfl rfl ?_
                            refine x_iload (i := 114) (pc' := 236) rfl rfl rfl ?_
                            refine x_iload (i := 115) (pc' := 238) rfl rfl rfl ?_
                            refine m_callV (i := 116) (pc' := 241) (av := [_, _, _]) (rest := []) rfl rfl (by decide) lX12_177 (sh76 G) rfl rfl rfl rfl rfl (Nat.le_of_ble_eq_true rfl) (Nat.le_refl _) (Nat.le_refl _) (s_X12_says hc (csy_0 z1 hc) ?_)
                            dsimp only [psh]
                            refine x_pop (i := 117) (pc' := 242) rfl rfl rfl ?_
                            refine x_iload (i := 118) (pc' := 244) rfl rfl rfl ?_
                            exact m_zreturn (i := 119) rfl rfl (by omega) (by first | exact hQ | (exfalso; omega))
                            skip)
                        skip)
                    · first | (exfalso; omega; done) | skip
                      all_goals (
                        refine x_iconst (i := 106) (pc' := 221) rfl rfl ?_
                        refine x_goto (i := 107) (pc' := 225) rfl (by decide) ?_
                        refine x_istore (L' := [some _, some _, some _, some _, some _, some _, some _, some _, some _]) (i := 109) (pc' := 227) rfl rfl rfl (by decide) rfl ?_
                        refine x_iload (i := 110) (pc' := 229) rfl rfl rfl ?_
                        refine x_ifeq (i := 111) (pc' := 232) (tgt := 242) rfl rfl (by decide) ⟨by omega, by omega⟩ (fun c24 => ?_) (fun c24 => ?_)
                        · first | (exfalso; omega; done) | skip
                          all_goals (
                            refine x_iload (i := 118) (pc' := 244) rfl rfl rfl ?_
                            exact m_zreturn (i := 119) rfl rfl (by omega) (by first | exact hQ | (exfalso; omega))
                            skip)
                        · first | (exfalso; omega; done) | skip
                          all_goals (
                            refine x_aload_n (i := 112) (pc' := 233) rfl rfl rfl rfl ?_
                            refine x_iload_n (i := 113) (pc' := 234) rfl rfl rfl rfl ?_
                            refine x_iload (i := 114) (pc' := 236) rfl rfl rfl ?_
                            refine x_iload (i := 115) (pc' := 238) rfl rfl rfl ?_
                            refine m_callV (i := 116) (pc' := 241) (av := [_, _, _]) (rest := []) rfl rfl (by decide) lX12_177 (sh76 G) rfl rfl rfl rfl rfl (Nat.le_of_ble_eq_true rfl) (Nat.le_refl _) (Nat.le_refl _) (s_X12_says hc (csy_0 z1 hc) ?_)
                            dsimp only [psh]
                            refine x_pop (i := 117) (pc' := 242) rfl rfl rfl ?_
                            refine x_iload (i := 118) (pc' := 244) rfl rfl rfl ?_
                            exact m_zreturn (i := 119) rfl rfl (by omega) (by first | exact hQ | (exfalso; omega))
                            skip)
                        skip)
                    skip)
                skip)
            skip)
        · first | (exfalso; omega; done) | skip
          all_goals (
            refine x_look (i := 27) (off := 270) (tgt := 308) rfl (by decide) ⟨by omega, by omega⟩ (by simp [Op.lookupswitch.offset]; (repeat' split) <;> omega) (by decide) ?_
            exfalso; omega
            skip)
    · have ef : dtf m k = -1 := by unfold dtf; rw [if_neg (by omega)]
      have et : dtt m k = m 84 (6 * k + 1) := by unfold dtt; rw [if_neg (by omega), if_pos q3]
      by_cases z1 : dwc m k = 0
      · rw [if_pos z1, if_pos z1] at hQ
        unfold dwc at z1
        rw [ef] at d1
        rw [et] at d2
        rw [ef, et] at z1 hQ c2
        refine x_bipush (i := 0) (pc' := 2) rfl rfl (by decide) ?_
        refine x_iload_n (i := 1) (pc' := 3) rfl rfl rfl rfl ?_
        refine x_imul (i := 2) (pc' := 4) rfl rfl ?_
        refine x_istore_n (L' := [some _, some _, some _, none, none, none, none, none, none]) (i := 3) (pc' := 5) rfl rfl rfl rfl (by decide) rfl ?_
        refine x_aload_n (i := 4) (pc' := 6) rfl rfl rfl rfl ?_
        refine m_getf (i := 5) (pc' := 9) rfl rfl flX12_31 (sh76 G) rfl rfl ?_
        refine x_iload_n (i := 6) (pc' := 10) rfl rfl rfl rfl ?_
        refine m_iald (i := 7) (pc' := 11) rfl rfl (sh84 G) (by decide) ⟨by omega, by omega⟩ ?_
        refine x_istore_n (L' := [some _, some _, some _, some _, none, none, none, none, none]) (i := 8) (pc' := 12) rfl rfl rfl rfl (by decide) rfl ?_
        refine x_aload_n (i := 9) (pc' := 13) rfl rfl rfl rfl ?_
        refine m_getf (i := 10) (pc' := 16) rfl rfl flX12_31 (sh76 G) rfl rfl ?_
        refine x_iload_n (i := 11) (pc' := 17) rfl rfl rfl rfl ?_
        refine x_iconst (i := 12) (pc' := 18) rfl rfl ?_
        refine x_iadd (i := 13) (pc' := 19) rfl rfl ?_
        refine m_iald (i := 14) (pc' := 20) rfl rfl (sh84 G) (by decide) ⟨by omega, by omega⟩ ?_
        refine x_istore (L' := [some _, some _, some _, some _, some _, none, none, none, none]) (i := 15) (pc' := 22) rfl rfl rfl (by decide) rfl ?_
        refine x_aload_n (i := 16) (pc' := 23) rfl rfl rfl rfl ?_
        refine m_getf (i := 17) (pc' := 26) rfl rfl flX12_31 (sh76 G) rfl rfl ?_
        refine x_iload_n (i := 18) (pc' := 27) rfl rfl rfl rfl ?_
        refine x_iconst (i := 19) (pc' := 28) rfl rfl ?_
        refine x_iadd (i := 20) (pc' := 29) rfl rfl ?_
        refine m_iald (i := 21) (pc' := 30) rfl rfl (sh84 G) (by decide) ⟨by omega, by omega⟩ ?_
        refine x_istore (L' := [some _, some _, some _, some _, some _, some _, none, none, none]) (i := 22) (pc' := 32) rfl rfl rfl (by decide) rfl ?_
        refine x_aload_n (i := 23) (pc' := 33) rfl rfl rfl rfl ?_
        refine m_getf (i := 24) (pc' := 36) rfl rfl flX12_25 (sh76 G) rfl rfl ?_
        refine x_iload_n (i := 25) (pc' := 37) rfl rfl rfl rfl ?_
        refine m_iald (i := 26) (pc' := 38) rfl rfl (sh82 G) (by decide) ⟨by omega, by omega⟩ ?_
        rcases (by omega : m 82 k = 100 ∨ m 82 k = 103 ∨ m 82 k = 108 ∨ m 82 k = 115 ∨ m 82 k = 119 ∨ (¬ m 82 k = 100 ∧ ¬ m 82 k = 103 ∧ ¬ m 82 k = 108 ∧ ¬ m 82 k = 115 ∧ ¬ m 82 k = 119)) with c1 | c1 | c1 | c1 | c1 | c1
        · first | (exfalso; omega; done) | skip
          all_goals (
            refine x_look (i := 27) (off := 241) (tgt := 279) rfl (by decide) ⟨by omega, by omega⟩ (by rw [c1]; rfl) (by decide) ?_
            exfalso; omega
            skip)
        · first | (exfalso; omega; done) | skip
          all_goals (
            refine x_look (i := 27) (off := 207) (tgt := 245) rfl (by decide) ⟨by omega, by omega⟩ (by rw [c1]; rfl) (by decide) ?_
            exfalso; omega
            skip)
        · first | (exfalso; omega; done) | skip
          all_goals (
            refine x_look (i := 27) (off := 235) (tgt := 273) rfl (by decide) ⟨by omega, by omega⟩ (by rw [c1]; rfl) (by decide) ?_
            exfalso; omega
            skip)
        · first | (exfalso; omega; done) | skip
          all_goals (
            refine x_look (i := 27) (off := 50) (tgt := 88) rfl (by decide) ⟨by omega, by omega⟩ (by rw [c1]; rfl) (by decide) ?_
            exfalso; omega
            skip)
        · first | (exfalso; omega; done) | skip
          all_goals (
            refine x_look (i := 27) (off := 119) (tgt := 157) rfl (by decide) ⟨by omega, by omega⟩ (by rw [c1]; rfl) (by decide) ?_
            refine x_aload_n (i := 72) (pc' := 158) rfl rfl rfl rfl ?_
            refine m_getf (i := 73) (pc' := 161) rfl rfl flX12_28 (sh76 G) rfl rfl ?_
            refine x_iload_n (i := 74) (pc' := 162) rfl rfl rfl rfl ?_
            refine m_iald (i := 75) (pc' := 163) rfl rfl (sh83 G) (by decide) ⟨by omega, by omega⟩ ?_
            refine x_iconst (i := 76) (pc' := 164) rfl rfl ?_
            refine x_icmpne (i := 77) (pc' := 167) (tgt := 172) rfl rfl (by decide) ⟨by omega, by omega⟩ ⟨by omega, by omega⟩ (fun c2 => ?_) (fun c2 => ?_)
            · first | (exfalso; omega; done) | skip
              all_goals (
                refine x_iconst (i := 80) (pc' := 173) rfl rfl ?_
                refine x_istore (L' := [some _, some _, some _, some _, some _, some _, none, some _, none]) (i := 81) (pc' := 175) rfl rfl rfl (by decide) rfl ?_
                refine x_aload_n (i := 82) (pc' := 176) rfl rfl rfl rfl ?_
                refine m_getf (i := 83) (pc' := 179) rfl rfl flX12_28 (sh76 G) rfl rfl ?_
                refine x_iload_n (i := 84) (pc' := 180) rfl rfl rfl rfl ?_
                refine m_iald (i := 85) (pc' := 181) rfl rfl (sh83 G) (by decide) ⟨by omega, by omega⟩ ?_
                refine x_iconst (i := 86) (pc' := 182) rfl rfl ?_
                refine x_icmpne (i := 87) (pc' := 185) (tgt := 190) rfl rfl (by decide) ⟨by omega, by omega⟩ ⟨by omega, by omega⟩ (fun c3 => ?_) (fun c3 => ?_)
                · first | (exfalso; omega; done) | skip
                  all_goals (
                    refine x_aload_n (i := 90) (pc' := 191) rfl rfl rfl rfl ?_
                    refine m_getf (i := 91) (pc' := 194) rfl rfl flX12_28 (sh76 G) rfl rfl ?_
                    refine x_iload_n (i := 92) (pc' := 195) rfl rfl rfl rfl ?_
                    refine m_iald (i := 93) (pc' := 196) rfl rfl (sh83 G) (by decide) ⟨by omega, by omega⟩ ?_
                    refine x_iconst (i := 94) (pc' := 197) rfl rfl ?_
                    refine x_icmpne (i := 95) (pc' := 200) (tgt := 205) rfl rfl (by decide) ⟨by omega, by omega⟩ ⟨by omega, by omega⟩ (fun c4 => ?_) (fun c4 => ?_)
                    · first | (exfalso; omega; done) | skip
                      all_goals (
                        refine x_iconst (i := 98) (pc' := 206) rfl rfl ?_
                        refine x_istore (L' := [some _, some _, some _, some _, some _, some _, none, some _, some _]) (i := 99) (pc' := 208) rfl rfl rfl (by decide) rfl ?_
                        refine x_aload_n (i := 100) (pc' := 209) rfl rfl rfl rfl ?_
                        refine x_iload_n (i := 101) (pc' := 210) rfl rfl rfl rfl ?_
                        refine x_iload (i := 102) (pc' := 212) rfl rfl rfl ?_
                        refine x_iload (i := 103) (pc' := 214) rfl rfl rfl ?_
                        refine m_callV (i := 104) (pc' := 217) (av := [_, _, _]) (rest := []) rfl rfl (by decide) lX12_174 (sh76 G) rfl rfl rfl rfl rfl (Nat.le_of_ble_eq_true rfl) (Nat.le_refl _) (Nat.le_refl _) (s_X12_canSay hn hc r0 d1 d2 ?_)
                        dsimp only [psh]
                        refine x_ifne (i := 105) (pc' := 220) (tgt := 224) rfl rfl (by decide) ⟨by omega, by omega⟩ (fun c5 => ?_) (fun c5 => ?_)
                        · first | (exfalso; omega; done) | skip
                          all_goals (
                            refine x_iconst (i := 108) (pc' := 225) rfl rfl ?_
                            refine x_istore (L' := [some _, some _, some _, some _, some _, some _, some _, some _, some _]) (i := 109) (pc' := 227) rfl rfl rfl (by decide) rfl ?_
                            refine x_iload (i := 110) (pc' := 229) rfl rfl rfl ?_
                            refine x_ifeq (i := 111) (pc' := 232) (tgt := 242) rfl rfl (by decide) ⟨by omega, by omega⟩ (fun c6 => ?_) (fun c6 => ?_)
                            · first | (exfalso; omega; done) | skip
                              all_goals (
                                refine x_iload (i := 118) (pc' := 244) rfl rfl rfl ?_
                                exact m_zreturn (i := 119) rfl rfl (by omega) (by first | exact hQ | (exfalso; omega))
                                skip)
                            · first | (exfalso; omega; done) | skip
                              all_goals (
                                refine x_aload_n (i := 112) (pc' := 233) rfl rfl rfl rfl ?_
                                refine x_iload_n (i := 113) (pc' := 234) rfl rfl rfl rfl ?_
                                refine x_iload (i := 114) (pc' := 236) rfl rfl rfl ?_
                                refine x_iload (i := 115) (pc' := 238) rfl rfl rfl ?_
                                refine m_callV (i := 116) (pc' := 241) (av := [_, _, _]) (rest := []) rfl rfl (by decide) lX12_177 (sh76 G) rfl rfl rfl rfl rfl (Nat.le_of_ble_eq_true rfl) (Nat.le_refl _) (Nat.le_refl _) (s_X12_says hc (csy_0 z1 hc) ?_)
                                dsimp only [psh]
                                refine x_pop (i := 117) (pc' := 242) rfl rfl rfl ?_
                                refine x_iload (i := 118) (pc' := 244) rfl rfl rfl ?_
                                exact m_zreturn (i := 119) rfl rfl (by omega) (by first | exact hQ | (exfalso; omega))
                                skip)
                            skip)
                        · first | (exfalso; omega; done) | skip
                          all_goals (
                            refine x_iconst (i := 106) (pc' := 221) rfl rfl ?_
                            refine x_goto (i := 107) (pc' := 225) rfl (by decide) ?_
                            refine x_istore (L' := [some _, some _, some _, some _, some _, some _, some _, some _, some _]) (i := 109) (pc' := 227) rfl rfl rfl (by decide) rfl ?_
                            refine x_iload (i := 110) (pc' := 229) rfl rfl rfl ?_
                            refine x_ifeq (i := 111) (pc' := 232) (tgt := 242) rfl rfl (by decide) ⟨by omega, by omega⟩ (fun c7 => ?_) (fun c7 => ?_)
                            · first | (exfalso; omega; done) | skip
                              all_goals (
                                refine x_iload (i := 118) (pc' := 244) rfl rfl rfl ?_
                                exact m_zreturn (i := 119) rfl rfl (by omega) (by first | exact hQ | (exfalso; omega))
                                skip)
                            · first | (exfalso; omega; done) | skip
                              all_goals (
                                refine x_aload_n (i := 112) (pc' := 233) rfl rfl rfl rfl ?_
                                refine x_iload_n (i := 113) (pc' := 234) rfl rfl rfl rfl ?_
                                refine x_iload (i := 114) (pc' := 236) rfl rfl rfl ?_
                                refine x_iload (i := 115) (pc' := 238) rfl rfl rfl ?_
                                refine m_callV (i := 116) (pc' := 241) (av := [_, _, _]) (rest := []) rfl rfl (by decide) lX12_177 (sh76 G) rfl rfl rfl rfl rfl (Nat.le_of_ble_eq_true rfl) (Nat.le_refl _) (Nat.le_refl _) (s_X12_says hc (csy_0 z1 hc) ?_)
                                dsimp only [psh]
                                refine x_pop (i := 117) (pc' := 242) rfl rfl rfl ?_
                                refine x_iload (i := 118) (pc' := 244) rfl rfl rfl ?_
                                exact m_zreturn (i := 119) rfl rfl (by omega) (by first | exact hQ | (exfalso; omega))
                                skip)
                            skip)
                        skip)
                    · first | (exfalso; omega; done) | skip
                      all_goals (
                        refine x_iload (i := 96) (pc' := 202) rfl rfl rfl ?_
                        refine x_goto (i := 97) (pc' := 206) rfl (by decide) ?_
                        refine x_istore (L' := [some _, some _, some _, some _, some _, some _, none, some _, some _]) (i := 99) (pc' := 208) rfl rfl rfl (by decide) rfl ?_
                        refine x_aload_n (i := 100) (pc' := 209) rfl rfl rfl rfl ?_
                        refine x_iload_n (i := 101) (pc' := 210) rfl rfl rfl rfl ?_
                        refine x_iload (i := 102) (pc' := 212) rfl rfl rfl ?_
                        refine x_iload (i := 103) (pc' := 214) rfl rfl rfl ?_
                        refine m_callV (i := 104) (pc' := 217) (av := [_, _, _]) (rest := []) rfl rfl (by decide) lX12_174 (sh76 G) rfl rfl rfl rfl rfl (Nat.le_of_ble_eq_true rfl) (Nat.le_refl _) (Nat.le_refl _) (s_X12_canSay hn hc r0 d1 d2 ?_)
                        dsimp only [psh]
                        refine x_ifne (i := 105) (pc' := 220) (tgt := 224) rfl rfl (by decide) ⟨by omega, by omega⟩ (fun c8 => ?_) (fun c8 => ?_)
                        · first | (exfalso; omega; done) | skip
                          all_goals (
                            refine x_iconst (i := 108) (pc' := 225) rfl rfl ?_
                            refine x_istore (L' := [some _, some _, some _, some _, some _, some _, some _, some _, some _]) (i := 109) (pc' := 227) rfl rfl rfl (by decide) rfl ?_
                            refine x_iload (i := 110) (pc' := 229) rfl rfl rfl ?_
                            refine x_ifeq (i := 111) (pc' := 232) (tgt := 242) rfl rfl (by decide) ⟨by omega, by omega⟩ (fun c9 => ?_) (fun c9 => ?_)
                            · first | (exfalso; omega; done) | skip
                              all_goals (
                                refine x_iload (i := 118) (pc' := 244) rfl rfl rfl ?_
                                exact m_zreturn (i := 119) rfl rfl (by omega) (by first | exact hQ | (exfalso; omega))
                                skip)
                            · first | (exfalso; omega; done) | skip
                              all_goals (
                                refine x_aload_n (i := 112) (pc' := 233) rfl rfl rfl rfl ?_
                                refine x_iload_n (i := 113) (pc' := 234) rfl rfl rfl rfl ?_
                                refine x_iload (i := 114) (pc' := 236) rfl rfl rfl ?_
                                refine x_iload (i := 115) (pc' := 238) rfl rfl rfl ?_
                                refine m_callV (i := 116) (pc' := 241) (av := [_, _, _]) (rest := []) rfl rfl (by decide) lX12_177 (sh76 G) rfl rfl rfl rfl rfl (Nat.le_of_ble_eq_true rfl) (Nat.le_refl _) (Nat.le_refl _) (s_X12_says hc (csy_0 z1 hc) ?_)
                                dsimp only [psh]
                                refine x_pop (i := 117) (pc' := 242) rfl rfl rfl ?_
                                refine x_iload (i := 118) (pc' := 244) rfl rfl rfl ?_
                                exact m_zreturn (i := 119) rfl rfl (by omega) (by first | exact hQ | (exfalso; omega))
                                skip)
                            skip)
                        · first | (exfalso; omega; done) | skip
                          all_goals (
                            refine x_iconst (i := 106) (pc' := 221) rfl rfl ?_
                            refine x_goto (i := 107) (pc' := 225) rfl (by decide) ?_
                            refine x_istore (L' := [some _, some _, some _, some _, some _, some _, some _, some _, some _]) (i := 109) (pc' := 227) rfl rfl rfl (by decide) rfl ?_
                            refine x_iload (i := 110) (pc' := 229) rfl rfl rfl ?_
                            refine x_ifeq (i := 111) (pc' := 232) (tgt := 242) rfl rfl (by decide) ⟨by omega, by omega⟩ (fun c10 => ?_) (fun c10 => ?_)
                            · first | (exfalso; omega; done) | skip
                              all_goals (
                                refine x_iload (i := 118) (pc' := 244) rfl rfl rfl ?_
                                exact m_zreturn (i := 119) rfl rfl (by omega) (by first | exact hQ | (exfalso; omega))
                                skip)
                            · first | (exfalso; omega; done) | skip
                              all_goals (
                                refine x_aload_n (i := 112) (pc' := 233) rfl rfl rfl rfl ?_
                                refine x_iload_n (i := 113) (pc' := 234) rfl rfl rfl rfl ?_
                                refine x_iload (i := 114) (pc' := 236) rfl rfl rfl ?_
                                refine x_iload (i := 115) (pc' := 238) rfl rfl rfl ?_
                                refine m_callV (i := 116) (pc' := 241) (av := [_, _, _]) (rest := []) rfl rfl (by decide) lX12_177 (sh76 G) rfl rfl rfl rfl rfl (Nat.le_of_ble_eq_true rfl) (Nat.le_refl _) (Nat.le_refl _) (s_X12_says hc (csy_0 z1 hc) ?_)
                                dsimp only [psh]
                                refine x_pop (i := 117) (pc' := 242) rfl rfl rfl ?_
                                refine x_iload (i := 118) (pc' := 244) rfl rfl rfl ?_
                                exact m_zreturn (i := 119) rfl rfl (by omega) (by first | exact hQ | (exfalso; omega))
                                skip)
                            skip)
                        skip)
                    skip)
                · first | (exfalso; omega; done) | skip
                  all_goals (
                    refine x_iload (i := 88) (pc' := 187) rfl rfl rfl ?_
                    refine x_goto (i := 89) (pc' := 206) rfl (by decide) ?_
                    refine x_istore (L' := [some _, some _, some _, some _, some _, some _, none, some _, some _]) (i := 99) (pc' := 208) rfl rfl rfl (by decide) rfl ?_
                    refine x_aload_n (i := 100) (pc' := 209) rfl rfl rfl rfl ?_
                    refine x_iload_n (i := 101) (pc' := 210) rfl rfl rfl rfl ?_
                    refine x_iload (i := 102) (pc' := 212) rfl rfl rfl ?_
                    refine x_iload (i := 103) (pc' := 214) rfl rfl rfl ?_
                    refine m_callV (i := 104) (pc' := 217) (av := [_, _, _]) (rest := []) rfl rfl (by decide) lX12_174 (sh76 G) rfl rfl rfl rfl rfl (Nat.le_of_ble_eq_true rfl) (Nat.le_refl _) (Nat.le_refl _) (s_X12_canSay hn hc r0 d1 d2 ?_)
                    dsimp only [psh]
                    refine x_ifne (i := 105) (pc' := 220) (tgt := 224) rfl rfl (by decide) ⟨by omega, by omega⟩ (fun c11 => ?_) (fun c11 => ?_)
                    · first | (exfalso; omega; done) | skip
                      all_goals (
                        refine x_iconst (i := 108) (pc' := 225) rfl rfl ?_
                        refine x_istore (L' := [some _, some _, some _, some _, some _, some _, some _, some _, some _]) (i := 109) (pc' := 227) rfl rfl rfl (by decide) rfl ?_
                        refine x_iload (i := 110) (pc' := 229) rfl rfl rfl ?_
                        refine x_ifeq (i := 111) (pc' := 232) (tgt := 242) rfl rfl (by decide) ⟨by omega, by omega⟩ (fun c12 => ?_) (fun c12 => ?_)
                        · first | (exfalso; omega; done) | skip
                          all_goals (
                            refine x_iload (i := 118) (pc' := 244) rfl rfl rfl ?_
                            exact m_zreturn (i := 119) rfl rfl (by omega) (by first | exact hQ | (exfalso; omega))
                            skip)
                        · first | (exfalso; omega; done) | skip
                          all_goals (
                            refine x_aload_n (i := 112) (pc' := 233) rfl rfl rfl rfl ?_
                            refine x_iload_n (i := 113) (pc' := 234) rfl rfl rfl rfl ?_
                            refine x_iload (i := 114) (pc' := 236) rfl rfl rfl ?_
                            refine x_iload (i := 115) (pc' := 238) rfl rfl rfl ?_
                            refine m_callV (i := 116) (pc' := 241) (av := [_, _, _]) (rest := []) rfl rfl (by decide) lX12_177 (sh76 G) rfl rfl rfl rfl rfl (Nat.le_of_ble_eq_true rfl) (Nat.le_refl _) (Nat.le_refl _) (s_X12_says hc (csy_0 z1 hc) ?_)
                            dsimp only [psh]
                            refine x_pop (i := 117) (pc' := 242) rfl rfl rfl ?_
                            refine x_iload (i := 118) (pc' := 244) rfl rfl rfl ?_
                            exact m_zreturn (i := 119) rfl rfl (by omega) (by first | exact hQ | (exfalso; omega))
                            skip)
                        skip)
                    · first | (exfalso; omega; done) | skip
                      all_goals (
                        refine x_iconst (i := 106) (pc' := 221) rfl rfl ?_
                        refine x_goto (i := 107) (pc' := 225) rfl (by decide) ?_
                        refine x_istore (L' := [some _, some _, some _, some _, some _, some _, some _, some _, some _]) (i := 109) (pc' := 227) rfl rfl rfl (by decide) rfl ?_
                        refine x_iload (i := 110) (pc' := 229) rfl rfl rfl ?_
                        refine x_ifeq (i := 111) (pc' := 232) (tgt := 242) rfl rfl (by decide) ⟨by omega, by omega⟩ (fun c13 => ?_) (fun c13 => ?_)
                        · first | (exfalso; omega; done) | skip
                          all_goals (
                            refine x_iload (i := 118) (pc' := 244) rfl rfl rfl ?_
                            exact m_zreturn (i := 119) rfl rfl (by omega) (by first | exact hQ | (exfalso; omega))
                            skip)
                        · first | (exfalso; omega; done) | skip
                          all_goals (
                            refine x_aload_n (i := 112) (pc' := 233) rfl rfl rfl rfl ?_
                            refine x_iload_n (i := 113) (pc' := 234) rfl rfl rfl rfl ?_
                            refine x_iload (i := 114) (pc' := 236) rfl rfl rfl ?_
                            refine x_iload (i := 115) (pc' := 238) rfl rfl rfl ?_
                            refine m_callV (i := 116) (pc' := 241) (av := [_, _, _]) (rest := []) rfl rfl (by decide) lX12_177 (sh76 G) rfl rfl rfl rfl rfl (Nat.le_of_ble_eq_true rfl) (Nat.le_refl _) (Nat.le_refl _) (s_X12_says hc (csy_0 z1 hc) ?_)
                            dsimp only [psh]
                            refine x_pop (i := 117) (pc' := 242) rfl rfl rfl ?_
                            refine x_iload (i := 118) (pc' := 244) rfl rfl rfl ?_
                            exact m_zreturn (i := 119) rfl rfl (by omega) (by first | exact hQ | (exfalso; omega))
                            skip)
                        skip)
                    skip)
                skip)
            · first | (exfalso; omega; done) | skip
              all_goals (
                refine x_iload (i := 78) (pc' := 169) rfl rfl rfl ?_
                refine x_goto (i := 79) (pc' := 173) rfl (by decide) ?_
                refine x_istore (L' := [some _, some _, some _, some _, some _, some _, none, some _, none]) (i := 81) (pc' := 175) rfl rfl rfl (by decide) rfl ?_
                refine x_aload_n (i := 82) (pc' := 176) rfl rfl rfl rfl ?_
                refine m_getf (i := 83) (pc' := 179) rfl rfl flX12_28 (sh76 G) rfl rfl ?_
                refine x_iload_n (i := 84) (pc' := 180) rfl rfl rfl rfl ?_
                refine m_iald (i := 85) (pc' := 181) rfl rfl (sh83 G) (by decide) ⟨by omega, by omega⟩ ?_
                refine x_iconst (i := 86) (pc' := 182) rfl rfl ?_
                refine x_icmpne (i := 87) (pc' := 185) (tgt := 190) rfl rfl (by decide) ⟨by omega, by omega⟩ ⟨by omega, by omega⟩ (fun c14 => ?_) (fun c14 => ?_)
                · first | (exfalso; omega; done) | skip
                  all_goals (
                    refine x_aload_n (i := 90) (pc' := 191) rfl rfl rfl rfl ?_
                    refine m_getf (i := 91) (pc' := 194) rfl rfl flX12_28 (sh76 G) rfl rfl ?_
                    refine x_iload_n (i := 92) (pc' := 195) rfl rfl rfl rfl ?_
                    refine m_iald (i := 93) (pc' := 196) rfl rfl (sh83 G) (by decide) ⟨by omega, by omega⟩ ?_
                    refine x_iconst (i := 94) (pc' := 197) rfl rfl ?_
                    refine x_icmpne (i := 95) (pc' := 200) (tgt := 205) rfl rfl (by decide) ⟨by omega, by omega⟩ ⟨by omega, by omega⟩ (fun c15 => ?_) (fun c15 => ?_)
                    · first | (exfalso; omega; done) | skip
                      all_goals (
                        refine x_iconst (i := 98) (pc' := 206) rfl rfl ?_
                        refine x_istore (L' := [some _, some _, some _, some _, some _, some _, none, some _, some _]) (i := 99) (pc' := 208) rfl rfl rfl (by decide) rfl ?_
                        refine x_aload_n (i := 100) (pc' := 209) rfl rfl rfl rfl ?_
                        refine x_iload_n (i := 101) (pc' := 210) rfl rfl rfl rfl ?_
                        refine x_iload (i := 102) (pc' := 212) rfl rfl rfl ?_
                        refine x_iload (i := 103) (pc' := 214) rfl rfl rfl ?_
                        refine m_callV (i := 104) (pc' := 217) (av := [_, _, _]) (rest := []) rfl rfl (by decide) lX12_174 (sh76 G) rfl rfl rfl rfl rfl (Nat.le_of_ble_eq_true rfl) (Nat.le_refl _) (Nat.le_refl _) (s_X12_canSay hn hc r0 d1 d2 ?_)
                        dsimp only [psh]
                        refine x_ifne (i := 105) (pc' := 220) (tgt := 224) rfl rfl (by decide) ⟨by omega, by omega⟩ (fun c16 => ?_) (fun c16 => ?_)
                        · first | (exfalso; omega; done) | skip
                          all_goals (
                            refine x_iconst (i := 108) (pc' := 225) rfl rfl ?_
                            refine x_istore (L' := [some _, some _, some _, some _, some _, some _, some _, some _, some _]) (i := 109) (pc' := 227) rfl rfl rfl (by decide) rfl ?_
                            refine x_iload (i := 110) (pc' := 229) rfl rfl rfl ?_
                            refine x_ifeq (i := 111) (pc' := 232) (tgt := 242) rfl rfl (by decide) ⟨by omega, by omega⟩ (fun c17 => ?_) (fun c17 => ?_)
                            · first | (exfalso; omega; done) | skip
                              all_goals (
                                refine x_iload (i := 118) (pc' := 244) rfl rfl rfl ?_
                                exact m_zreturn (i := 119) rfl rfl (by omega) (by first | exact hQ | (exfalso; omega))
                                skip)
                            · first | (exfalso; omega; done) | skip
                              all_goals (
                                refine x_aload_n (i := 112) (pc' := 233) rfl rfl rfl rfl ?_
                                refine x_iload_n (i := 113) (pc' := 234) rfl rfl rfl rfl ?_
                                refine x_iload (i := 114) (pc' := 236) rfl rfl rfl ?_
                                refine x_iload (i := 115) (pc' := 238) rfl rfl rfl ?_
                                refine m_callV (i := 116) (pc' := 241) (av := [_, _, _]) (rest := []) rfl rfl (by decide) lX12_177 (sh76 G) rfl rfl rfl rfl rfl (Nat.le_of_ble_eq_true rfl) (Nat.le_refl _) (Nat.le_refl _) (s_X12_says hc (csy_0 z1 hc) ?_)
                                dsimp only [psh]
                                refine x_pop (i := 117) (pc' := 242) rfl rfl rfl ?_
                                refine x_iload (i := 118) (pc' := 244) rfl rfl rfl ?_
                                exact m_zreturn (i := 119) rfl rfl (by omega) (by first | exact hQ | (exfalso; omega))
                                skip)
                            skip)
                        · first | (exfalso; omega; done) | skip
                          all_goals (
                            refine x_iconst (i := 106) (pc' := 221) rfl rfl ?_
                            refine x_goto (i := 107) (pc' := 225) rfl (by decide) ?_
                            refine x_istore (L' := [some _, some _, some _, some _, some _, some _, some _, some _, some _]) (i := 109) (pc' := 227) rfl rfl rfl (by decide) rfl ?_
                            refine x_iload (i := 110) (pc' := 229) rfl rfl rfl ?_
                            refine x_ifeq (i := 111) (pc' := 232) (tgt := 242) rfl rfl (by decide) ⟨by omega, by omega⟩ (fun c18 => ?_) (fun c18 => ?_)
                            · first | (exfalso; omega; done) | skip
                              all_goals (
                                refine x_iload (i := 118) (pc' := 244) rfl rfl rfl ?_
                                exact m_zreturn (i := 119) rfl rfl (by omega) (by first | exact hQ | (exfalso; omega))
                                skip)
                            · first | (exfalso; omega; done) | skip
                              all_goals (
                                refine x_aload_n (i := 112) (pc' := 233) rfl rfl rfl rfl ?_
                                refine x_iload_n (i := 113) (pc' := 234) rfl rfl rfl rfl ?_
                                refine x_iload (i := 114) (pc' := 236) rfl rfl rfl ?_
                                refine x_iload (i := 115) (pc' := 238) rfl rfl rfl ?_
                                refine m_callV (i := 116) (pc' := 241) (av := [_, _, _]) (rest := []) rfl rfl (by decide) lX12_177 (sh76 G) rfl rfl rfl rfl rfl (Nat.le_of_ble_eq_true rfl) (Nat.le_refl _) (Nat.le_refl _) (s_X12_says hc (csy_0 z1 hc) ?_)
                                dsimp only [psh]
                                refine x_pop (i := 117) (pc' := 242) rfl rfl rfl ?_
                                refine x_iload (i := 118) (pc' := 244) rfl rfl rfl ?_
                                exact m_zreturn (i := 119) rfl rfl (by omega) (by first | exact hQ | (exfalso; omega))
                                skip)
                            skip)
                        skip)
                    · first | (exfalso; omega; done) | skip
                      all_goals (
                        refine x_iload (i := 96) (pc' := 202) rfl rfl rfl ?_
                        refine x_goto (i := 97) (pc' := 206) rfl (by decide) ?_
                        refine x_istore (L' := [some _, some _, some _, some _, some _, some _, none, some _, some _]) (i := 99) (pc' := 208) rfl rfl rfl (by decide) rfl ?_
                        refine x_aload_n (i := 100) (pc' := 209) rfl rfl rfl rfl ?_
                        refine x_iload_n (i := 101) (pc' := 210) rfl rfl rfl rfl ?_
                        refine x_iload (i := 102) (pc' := 212) rfl rfl rfl ?_
                        refine x_iload (i := 103) (pc' := 214) rfl rfl rfl ?_
                        refine m_callV (i := 104) (pc' := 217) (av := [_, _, _]) (rest := []) rfl rfl (by decide) lX12_174 (sh76 G) rfl rfl rfl rfl rfl (Nat.le_of_ble_eq_true rfl) (Nat.le_refl _) (Nat.le_refl _) (s_X12_canSay hn hc r0 d1 d2 ?_)
                        dsimp only [psh]
                        refine x_ifne (i := 105) (pc' := 220) (tgt := 224) rfl rfl (by decide) ⟨by omega, by omega⟩ (fun c19 => ?_) (fun c19 => ?_)
                        · first | (exfalso; omega; done) | skip
                          all_goals (
                            refine x_iconst (i := 108) (pc' := 225) rfl rfl ?_
                            refine x_istore (L' := [some _, some _, some _, some _, some _, some _, some _, some _, some _]) (i := 109) (pc' := 227) rfl rfl rfl (by decide) rfl ?_
                            refine x_iload (i := 110) (pc' := 229) rfl rfl rfl ?_
                            refine x_ifeq (i := 111) (pc' := 232) (tgt := 242) rfl rfl (by decide) ⟨by omega, by omega⟩ (fun c20 => ?_) (fun c20 => ?_)
                            · first | (exfalso; omega; done) | skip
                              all_goals (
                                refine x_iload (i := 118) (pc' := 244) rfl rfl rfl ?_
                                exact m_zreturn (i := 119) rfl rfl (by omega) (by first | exact hQ | (exfalso; omega))
                                skip)
                            · first | (exfalso; omega; done) | skip
                              all_goals (
                                refine x_aload_n (i := 112) (pc' := 233) rfl rfl rfl rfl ?_
                                refine x_iload_n (i := 113) (pc' := 234) rfl rfl rfl rfl ?_
                                refine x_iload (i := 114) (pc' := 236) rfl rfl rfl ?_
                                refine x_iload (i := 115) (pc' := 238) rfl rfl rfl ?_
                                refine m_callV (i := 116) (pc' := 241) (av := [_, _, _]) (rest := []) rfl rfl (by decide) lX12_177 (sh76 G) rfl rfl rfl rfl rfl (Nat.le_of_ble_eq_true rfl) (Nat.le_refl _) (Nat.le_refl _) (s_X12_says hc (csy_0 z1 hc) ?_)
                                dsimp only [psh]
                                refine x_pop (i := 117) (pc' := 242) rfl rfl rfl ?_
                                refine x_iload (i := 118) (pc' := 244) rfl rfl rfl ?_
                                exact m_zreturn (i := 119) rfl rfl (by omega) (by first | exact hQ | (exfalso; omega))
                                skip)
                            skip)
                        · first | (exfalso; omega; done) | skip
                          all_goals (
                            refine x_iconst (i := 106) (pc' := 221) rfl rfl ?_
                            refine x_goto (i := 107) (pc' := 225) rfl (by decide) ?_
                            refine x_istore (L' := [some _, some _, some _, some _, some _, some _, some _, some _, some _]) (i := 109) (pc' := 227) rfl rfl rfl (by decide) rfl ?_
                            refine x_iload (i := 110) (pc' := 229) rfl rfl rfl ?_
                            refine x_ifeq (i := 111) (pc' := 232) (tgt := 242) rfl rfl (by decide) ⟨by omega, by omega⟩ (fun c21 => ?_) (fun c21 => ?_)
                            · first | (exfalso; omega; done) | skip
                              all_goals (
                                refine x_iload (i := 118) (pc' := 244) rfl rfl rfl ?_
                                exact m_zreturn (i := 119) rfl rfl (by omega) (by first | exact hQ | (exfalso; omega))
                                skip)
                            · first | (exfalso; omega; done) | skip
                              all_goals (
                                refine x_aload_n (i := 112) (pc' := 233) rfl rfl rfl rfl ?_
                                refine x_iload_n (i := 113) (pc' := 234) rfl rfl rfl rfl ?_
                                refine x_iload (i := 114) (pc' := 236) rfl rfl rfl ?_
                                refine x_iload (i := 115) (pc' := 238) rfl rfl rfl ?_
                                refine m_callV (i := 116) (pc' := 241) (av := [_, _, _]) (rest := []) rfl rfl (by decide) lX12_177 (sh76 G) rfl rfl rfl rfl rfl (Nat.le_of_ble_eq_true rfl) (Nat.le_refl _) (Nat.le_refl _) (s_X12_says hc (csy_0 z1 hc) ?_)
                                dsimp only [psh]
                                refine x_pop (i := 117) (pc' := 242) rfl rfl rfl ?_
                                refine x_iload (i := 118) (pc' := 244) rfl rfl rfl ?_
                                exact m_zreturn (i := 119) rfl rfl (by omega) (by first | exact hQ | (exfalso; omega))
                                skip)
                            skip)
                        skip)
                    skip)
                · first | (exfalso; omega; done) | skip
                  all_goals (
                    refine x_iload (i := 88) (pc' := 187) rfl rfl rfl ?_
                    refine x_goto (i := 89) (pc' := 206) rfl (by decide) ?_
                    refine x_istore (L' := [some _, some _, some _, some _, some _, some _, none, some _, some _]) (i := 99) (pc' := 208) rfl rfl rfl (by decide) rfl ?_
                    refine x_aload_n (i := 100) (pc' := 209) rfl rfl rfl rfl ?_
                    refine x_iload_n (i := 101) (pc' := 210) rfl rfl rfl rfl ?_
                    refine x_iload (i := 102) (pc' := 212) rfl rfl rfl ?_
                    refine x_iload (i := 103) (pc' := 214) rfl rfl rfl ?_
                    refine m_callV (i := 104) (pc' := 217) (av := [_, _, _]) (rest := []) rfl rfl (by decide) lX12_174 (sh76 G) rfl rfl rfl rfl rfl (Nat.le_of_ble_eq_true rfl) (Nat.le_refl _) (Nat.le_refl _) (s_X12_canSay hn hc r0 d1 d2 ?_)
                    dsimp only [psh]
                    refine x_ifne (i := 105) (pc' := 220) (tgt := 224) rfl rfl (by decide) ⟨by omega, by omega⟩ (fun c22 => ?_) (fun c22 => ?_)
                    · first | (exfalso; omega; done) | skip
                      all_goals (
                        refine x_iconst (i := 108) (pc' := 225) rfl rfl ?_
                        refine x_istore (L' := [some _, some _, some _, some _, some _, some _, some _, some _, some _]) (i := 109) (pc' := 227) rfl rfl rfl (by decide) rfl ?_
                        refine x_iload (i := 110) (pc' := 229) rfl rfl rfl ?_
                        refine x_ifeq (i := 111) (pc' := 232) (tgt := 242) rfl rfl (by decide) ⟨by omega, by omega⟩ (fun c23 => ?_) (fun c23 => ?_)
                        · first | (exfalso; omega; done) | skip
                          all_goals (
                            refine x_iload (i := 118) (pc' := 244) rfl rfl rfl ?_
                            exact m_zreturn (i := 119) rfl rfl (by omega) (by first | exact hQ | (exfalso; omega))
                            skip)
                        · first | (exfalso; omega; done) | skip
                          all_goals (
                            refine x_aload_n (i := 112) (pc' := 233) rfl rfl rfl rfl ?_
                            refine x_iload_n (i := 113) (pc' := 234) rfl rfl rfl rfl ?_
                            refine x_iload (i := 114) (pc' := 236) rfl rfl rfl ?_
                            refine x_iload (i := 115) (pc' := 238) rfl rfl rfl ?_
                            refine m_callV (i := 116) (pc' := 241) (av := [_, _, _]) (rest := []) rfl rfl (by decide) lX12_177 (sh76 G) rfl rfl rfl rfl rfl (Nat.le_of_ble_eq_true rfl) (Nat.le_refl _) (Nat.le_refl _) (s_X12_says hc (csy_0 z1 hc) ?_)
                            dsimp only [psh]
                            refine x_pop (i := 117) (pc' := 242) rfl rfl rfl ?_
                            refine x_iload (i := 118) (pc' := 244) rfl rfl rfl ?_
                            exact m_zreturn (i := 119) rfl rfl (by omega) (by first | exact hQ | (exfalso; omega))
                            skip)
                        skip)
                    · first | (exfalso; omega; done) | skip
                      all_goals (
                        refine x_iconst (i := 106) (pc' := 221) rfl rfl ?_
                        refine x_goto (i := 107) (pc' := 225) rfl (by decide) ?_
                        refine x_istore (L' := [some _, some _, some _, some _, some _, some _, some _, some _, some _]) (i := 109) (pc' := 227) rfl rfl rfl (by decide) rfl ?_
                        refine x_iload (i := 110) (pc' := 229) rfl rfl rfl ?_
                        refine x_ifeq (i := 111) (pc' := 232) (tgt := 242) rfl rfl (by decide) ⟨by omega, by omega⟩ (fun c24 => ?_) (fun c24 => ?_)
                        · first | (exfalso; omega; done) | skip
                          all_goals (
                            refine x_iload (i := 118) (pc' := 244) rfl rfl rfl ?_
                            exact m_zreturn (i := 119) rfl rfl (by omega) (by first | exact hQ | (exfalso; omega))
                            skip)
                        · first | (exfalso; omega; done) | skip
                          all_goals (
                            refine x_aload_n (i := 112) (pc' := 233) rfl rfl rfl rfl ?_
                            refine x_iload_n (i := 113) (pc' := 234) rfl rfl rfl rfl ?_
                            refine x_iload (i := 114) (pc' := 236) rfl rfl rfl ?_
                            refine x_iload (i := 115) (pc' := 238) rfl rfl rfl ?_
                            refine m_callV (i := 116) (pc' := 241) (av := [_, _, _]) (rest := []) rfl rfl (by decide) lX12_177 (sh76 G) rfl rfl rfl rfl rfl (Nat.le_of_ble_eq_true rfl) (Nat.le_refl _) (Nat.le_refl _) (s_X12_says hc (csy_0 z1 hc) ?_)
                            dsimp only [psh]
                            refine x_pop (i := 117) (pc' := 242) rfl rfl rfl ?_
                            refine x_iload (i := 118) (pc' := 244) rfl rfl rfl ?_
                            exact m_zreturn (i := 119) rfl rfl (by omega) (by first | exact hQ | (exfalso; omega))
                            skip)
                        skip)
                    skip)
                skip)
            skip)
        · first | (exfalso; omega; done) | skip
          all_goals (
            refine x_look (i := 27) (off := 270) (tgt := 308) rfl (by decide) ⟨by omega, by omega⟩ (by simp [Op.lookupswitch.offset]; (repeat' split) <;> omega) (by decide) ?_
            exfalso; omega
            skip)
      · rw [if_neg z1, if_neg z1] at hQ
        unfold dwc at z1
        rw [ef] at d1
        rw [et] at d2
        rw [ef, et] at z1 c2
        refine x_bipush (i := 0) (pc' := 2) rfl rfl (by decide) ?_
        refine x_iload_n (i := 1) (pc' := 3) rfl rfl rfl rfl ?_
        refine x_imul (i := 2) (pc' := 4) rfl rfl ?_
        refine x_istore_n (L' := [some _, some _, some _, none, none, none, none, none, none]) (i := 3) (pc' := 5) rfl rfl rfl rfl (by decide) rfl ?_
        refine x_aload_n (i := 4) (pc' := 6) rfl rfl rfl rfl ?_
        refine m_getf (i := 5) (pc' := 9) rfl rfl flX12_31 (sh76 G) rfl rfl ?_
        refine x_iload_n (i := 6) (pc' := 10) rfl rfl rfl rfl ?_
        refine m_iald (i := 7) (pc' := 11) rfl rfl (sh84 G) (by decide) ⟨by omega, by omega⟩ ?_
        refine x_istore_n (L' := [some _, some _, some _, some _, none, none, none, none, none]) (i := 8) (pc' := 12) rfl rfl rfl rfl (by decide) rfl ?_
        refine x_aload_n (i := 9) (pc' := 13) rfl rfl rfl rfl ?_
        refine m_getf (i := 10) (pc' := 16) rfl rfl flX12_31 (sh76 G) rfl rfl ?_
        refine x_iload_n (i := 11) (pc' := 17) rfl rfl rfl rfl ?_
        refine x_iconst (i := 12) (pc' := 18) rfl rfl ?_
        refine x_iadd (i := 13) (pc' := 19) rfl rfl ?_
        refine m_iald (i := 14) (pc' := 20) rfl rfl (sh84 G) (by decide) ⟨by omega, by omega⟩ ?_
        refine x_istore (L' := [some _, some _, some _, some _, some _, none, none, none, none]) (i := 15) (pc' := 22) rfl rfl rfl (by decide) rfl ?_
        refine x_aload_n (i := 16) (pc' := 23) rfl rfl rfl rfl ?_
        refine m_getf (i := 17) (pc' := 26) rfl rfl flX12_31 (sh76 G) rfl rfl ?_
        refine x_iload_n (i := 18) (pc' := 27) rfl rfl rfl rfl ?_
        refine x_iconst (i := 19) (pc' := 28) rfl rfl ?_
        refine x_iadd (i := 20) (pc' := 29) rfl rfl ?_
        refine m_iald (i := 21) (pc' := 30) rfl rfl (sh84 G) (by decide) ⟨by omega, by omega⟩ ?_
        refine x_istore (L' := [some _, some _, some _, some _, some _, some _, none, none, none]) (i := 22) (pc' := 32) rfl rfl rfl (by decide) rfl ?_
        refine x_aload_n (i := 23) (pc' := 33) rfl rfl rfl rfl ?_
        refine m_getf (i := 24) (pc' := 36) rfl rfl flX12_25 (sh76 G) rfl rfl ?_
        refine x_iload_n (i := 25) (pc' := 37) rfl rfl rfl rfl ?_
        refine m_iald (i := 26) (pc' := 38) rfl rfl (sh82 G) (by decide) ⟨by omega, by omega⟩ ?_
        rcases (by omega : m 82 k = 100 ∨ m 82 k = 103 ∨ m 82 k = 108 ∨ m 82 k = 115 ∨ m 82 k = 119 ∨ (¬ m 82 k = 100 ∧ ¬ m 82 k = 103 ∧ ¬ m 82 k = 108 ∧ ¬ m 82 k = 115 ∧ ¬ m 82 k = 119)) with c1 | c1 | c1 | c1 | c1 | c1
        · first | (exfalso; omega; done) | skip
          all_goals (
            refine x_look (i := 27) (off := 241) (tgt := 279) rfl (by decide) ⟨by omega, by omega⟩ (by rw [c1]; rfl) (by decide) ?_
            exfalso; omega
            skip)
        · first | (exfalso; omega; done) | skip
          all_goals (
            refine x_look (i := 27) (off := 207) (tgt := 245) rfl (by decide) ⟨by omega, by omega⟩ (by rw [c1]; rfl) (by decide) ?_
            exfalso; omega
            skip)
        · first | (exfalso; omega; done) | skip
          all_goals (
            refine x_look (i := 27) (off := 235) (tgt := 273) rfl (by decide) ⟨by omega, by omega⟩ (by rw [c1]; rfl) (by decide) ?_
            exfalso; omega
            skip)
        · first | (exfalso; omega; done) | skip
          all_goals (
            refine x_look (i := 27) (off := 50) (tgt := 88) rfl (by decide) ⟨by omega, by omega⟩ (by rw [c1]; rfl) (by decide) ?_
            exfalso; omega
            skip)
        · first | (exfalso; omega; done) | skip
          all_goals (
            refine x_look (i := 27) (off := 119) (tgt := 157) rfl (by decide) ⟨by omega, by omega⟩ (by rw [c1]; rfl) (by decide) ?_
            refine x_aload_n (i := 72) (pc' := 158) rfl rfl rfl rfl ?_
            refine m_getf (i := 73) (pc' := 161) rfl rfl flX12_28 (sh76 G) rfl rfl ?_
            refine x_iload_n (i := 74) (pc' := 162) rfl rfl rfl rfl ?_
            refine m_iald (i := 75) (pc' := 163) rfl rfl (sh83 G) (by decide) ⟨by omega, by omega⟩ ?_
            refine x_iconst (i := 76) (pc' := 164) rfl rfl ?_
            refine x_icmpne (i := 77) (pc' := 167) (tgt := 172) rfl rfl (by decide) ⟨by omega, by omega⟩ ⟨by omega, by omega⟩ (fun c2 => ?_) (fun c2 => ?_)
            · first | (exfalso; omega; done) | skip
              all_goals (
                refine x_iconst (i := 80) (pc' := 173) rfl rfl ?_
                refine x_istore (L' := [some _, some _, some _, some _, some _, some _, none, some _, none]) (i := 81) (pc' := 175) rfl rfl rfl (by decide) rfl ?_
                refine x_aload_n (i := 82) (pc' := 176) rfl rfl rfl rfl ?_
                refine m_getf (i := 83) (pc' := 179) rfl rfl flX12_28 (sh76 G) rfl rfl ?_
                refine x_iload_n (i := 84) (pc' := 180) rfl rfl rfl rfl ?_
                refine m_iald (i := 85) (pc' := 181) rfl rfl (sh83 G) (by decide) ⟨by omega, by omega⟩ ?_
                refine x_iconst (i := 86) (pc' := 182) rfl rfl ?_
                refine x_icmpne (i := 87) (pc' := 185) (tgt := 190) rfl rfl (by decide) ⟨by omega, by omega⟩ ⟨by omega, by omega⟩ (fun c3 => ?_) (fun c3 => ?_)
                · first | (exfalso; omega; done) | skip
                  all_goals (
                    refine x_aload_n (i := 90) (pc' := 191) rfl rfl rfl rfl ?_
                    refine m_getf (i := 91) (pc' := 194) rfl rfl flX12_28 (sh76 G) rfl rfl ?_
                    refine x_iload_n (i := 92) (pc' := 195) rfl rfl rfl rfl ?_
                    refine m_iald (i := 93) (pc' := 196) rfl rfl (sh83 G) (by decide) ⟨by omega, by omega⟩ ?_
                    refine x_iconst (i := 94) (pc' := 197) rfl rfl ?_
                    refine x_icmpne (i := 95) (pc' := 200) (tgt := 205) rfl rfl (by decide) ⟨by omega, by omega⟩ ⟨by omega, by omega⟩ (fun c4 => ?_) (fun c4 => ?_)
                    · first | (exfalso; omega; done) | skip
                      all_goals (
                        refine x_iconst (i := 98) (pc' := 206) rfl rfl ?_
                        refine x_istore (L' := [some _, some _, some _, some _, some _, some _, none, some _, some _]) (i := 99) (pc' := 208) rfl rfl rfl (by decide) rfl ?_
                        refine x_aload_n (i := 100) (pc' := 209) rfl rfl rfl rfl ?_
                        refine x_iload_n (i := 101) (pc' := 210) rfl rfl rfl rfl ?_
                        refine x_iload (i := 102) (pc' := 212) rfl rfl rfl ?_
                        refine x_iload (i := 103) (pc' := 214) rfl rfl rfl ?_
                        refine m_callV (i := 104) (pc' := 217) (av := [_, _, _]) (rest := []) rfl rfl (by decide) lX12_174 (sh76 G) rfl rfl rfl rfl rfl (Nat.le_of_ble_eq_true rfl) (Nat.le_refl _) (Nat.le_refl _) (s_X12_canSay hn hc r0 d1 d2 ?_)
                        dsimp only [psh]
                        refine x_ifne (i := 105) (pc' := 220) (tgt := 224) rfl rfl (by decide) ⟨by omega, by omega⟩ (fun c5 => ?_) (fun c5 => ?_)
                        · first | (exfalso; omega; done) | skip
                          all_goals (
                            refine x_iconst (i := 108) (pc' := 225) rfl rfl ?_
                            refine x_istore (L' := [some _, some _, some _, some _, some _, some _, some _, some _, some _]) (i := 109) (pc' := 227) rfl rfl rfl (by decide) rfl ?_
                            refine x_iload (i := 110) (pc' := 229) rfl rfl rfl ?_
                            refine x_ifeq (i := 111) (pc' := 232) (tgt := 242) rfl rfl (by decide) ⟨by omega, by omega⟩ (fun c6 => ?_) (fun c6 => ?_)
                            · first | (exfalso; omega; done) | skip
                              all_goals (
                                refine x_iload (i := 118) (pc' := 244) rfl rfl rfl ?_
                                exact m_zreturn (i := 119) rfl rfl (by omega) (by first | exact hQ | (exfalso; omega))
                                skip)
                            · first | (exfalso; omega; done) | skip
                              all_goals (
                                refine x_aload_n (i := 112) (pc' := 233) rfl rfl rfl rfl ?_
                                refine x_iload_n (i := 113) (pc' := 234) rfl rfl rfl rfl ?_
                                refine x_iload (i := 114) (pc' := 236) rfl rfl rfl ?_
                                refine x_iload (i := 115) (pc' := 238) rfl rfl rfl ?_
                                refine m_callV (i := 116) (pc' := 241) (av := [_, _, _]) (rest := []) rfl rfl (by decide) lX12_177 (sh76 G) rfl rfl rfl rfl rfl (Nat.le_of_ble_eq_true rfl) (Nat.le_refl _) (Nat.le_refl _) (s_X12_says hc (csy_0 z1 hc) ?_)
                                dsimp only [psh]
                                refine x_pop (i := 117) (pc' := 242) rfl rfl rfl ?_
                                refine x_iload (i := 118) (pc' := 244) rfl rfl rfl ?_
                                exact m_zreturn (i := 119) rfl rfl (by omega) (by first | exact hQ | (exfalso; omega))
                                skip)
                            skip)
                        · first | (exfalso; omega; done) | skip
                          all_goals (
                            refine x_iconst (i := 106) (pc' := 221) rfl rfl ?_
                            refine x_goto (i := 107) (pc' := 225) rfl (by decide) ?_
                            refine x_istore (L' := [some _, some _, some _, some _, some _, some _, some _, some _, some _]) (i := 109) (pc' := 227) rfl rfl rfl (by decide) rfl ?_
                            refine x_iload (i := 110) (pc' := 229) rfl rfl rfl ?_
                            refine x_ifeq (i := 111) (pc' := 232) (tgt := 242) rfl rfl (by decide) ⟨by omega, by omega⟩ (fun c7 => ?_) (fun c7 => ?_)
                            · first | (exfalso; omega; done) | skip
                              all_goals (
                                refine x_iload (i := 118) (pc' := 244) rfl rfl rfl ?_
                                exact m_zreturn (i := 119) rfl rfl (by omega) (by first | exact hQ | (exfalso; omega))
                                skip)
                            · first | (exfalso; omega; done) | skip
                              all_goals (
                                refine x_aload_n (i := 112) (pc' := 233) rfl rfl rfl rfl ?_
                                refine x_iload_n (i := 113) (pc' := 234) rfl rfl rfl rfl ?_
                                refine x_iload (i := 114) (pc' := 236) rfl rfl rfl ?_
                                refine x_iload (i := 115) (pc' := 238) rfl rfl rfl ?_
                                refine m_callV (i := 116) (pc' := 241) (av := [_, _, _]) (rest := []) rfl rfl (by decide) lX12_177 (sh76 G) rfl rfl rfl rfl rfl (Nat.le_of_ble_eq_true rfl) (Nat.le_refl _) (Nat.le_refl _) (s_X12_says hc (csy_0 z1 hc) ?_)
                                dsimp only [psh]
                                refine x_pop (i := 117) (pc' := 242) rfl rfl rfl ?_
                                refine x_iload (i := 118) (pc' := 244) rfl rfl rfl ?_
                                exact m_zreturn (i := 119) rfl rfl (by omega) (by first | exact hQ | (exfalso; omega))
                                skip)
                            skip)
                        skip)
                    · first | (exfalso; omega; done) | skip
                      all_goals (
                        refine x_iload (i := 96) (pc' := 202) rfl rfl rfl ?_
                        refine x_goto (i := 97) (pc' := 206) rfl (by decide) ?_
                        refine x_istore (L' := [some _, some _, some _, some _, some _, some _, none, some _, some _]) (i := 99) (pc' := 208) rfl rfl rfl (by decide) rfl ?_
                        refine x_aload_n (i := 100) (pc' := 209) rfl rfl rfl rfl ?_
                        refine x_iload_n (i := 101) (pc' := 210) rfl rfl rfl rfl ?_
                        refine x_iload (i := 102) (pc' := 212) rfl rfl rfl ?_
                        refine x_iload (i := 103) (pc' := 214) rfl rfl rfl ?_
                        refine m_callV (i := 104) (pc' := 217) (av := [_, _, _]) (rest := []) rfl rfl (by decide) lX12_174 (sh76 G) rfl rfl rfl rfl rfl (Nat.le_of_ble_eq_true rfl) (Nat.le_refl _) (Nat.le_refl _) (s_X12_canSay hn hc r0 d1 d2 ?_)
                        dsimp only [psh]
                        refine x_ifne (i := 105) (pc' := 220) (tgt := 224) rfl rfl (by decide) ⟨by omega, by omega⟩ (fun c8 => ?_) (fun c8 => ?_)
                        · first | (exfalso; omega; done) | skip
                          all_goals (
                            refine x_iconst (i := 108) (pc' := 225) rfl rfl ?_
                            refine x_istore (L' := [some _, some _, some _, some _, some _, some _, some _, some _, some _]) (i := 109) (pc' := 227) rfl rfl rfl (by decide) rfl ?_
                            refine x_iload (i := 110) (pc' := 229) rfl rfl rfl ?_
                            refine x_ifeq (i := 111) (pc' := 232) (tgt := 242) rfl rfl (by decide) ⟨by omega, by omega⟩ (fun c9 => ?_) (fun c9 => ?_)
                            · first | (exfalso; omega; done) | skip
                              all_goals (
                                refine x_iload (i := 118) (pc' := 244) rfl rfl rfl ?_
                                exact m_zreturn (i := 119) rfl rfl (by omega) (by first | exact hQ | (exfalso; omega))
                                skip)
                            · first | (exfalso; omega; done) | skip
                              all_goals (
                                refine x_aload_n (i := 112) (pc' := 233) rfl rfl rfl rfl ?_
                                refine x_iload_n (i := 113) (pc' := 234) rfl rfl rfl rfl ?_
                                refine x_iload (i := 114) (pc' := 236) rfl rfl rfl ?_
                                refine x_iload (i := 115) (pc' := 238) rfl rfl rfl ?_
                                refine m_callV (i := 116) (pc' := 241) (av := [_, _, _]) (rest := []) rfl rfl (by decide) lX12_177 (sh76 G) rfl rfl rfl rfl rfl (Nat.le_of_ble_eq_true rfl) (Nat.le_refl _) (Nat.le_refl _) (s_X12_says hc (csy_0 z1 hc) ?_)
                                dsimp only [psh]
                                refine x_pop (i := 117) (pc' := 242) rfl rfl rfl ?_
                                refine x_iload (i := 118) (pc' := 244) rfl rfl rfl ?_
                                exact m_zreturn (i := 119) rfl rfl (by omega) (by first | exact hQ | (exfalso; omega))
                                skip)
                            skip)
                        · first | (exfalso; omega; done) | skip
                          all_goals (
                            refine x_iconst (i := 106) (pc' := 221) rfl rfl ?_
                            refine x_goto (i := 107) (pc' := 225) rfl (by decide) ?_
                            refine x_istore (L' := [some _, some _, some _, some _, some _, some _, some _, some _, some _]) (i := 109) (pc' := 227) rfl rfl rfl (by decide) rfl ?_
                            refine x_iload (i := 110) (pc' := 229) rfl rfl rfl ?_
                            refine x_ifeq (i := 111) (pc' := 232) (tgt := 242) rfl rfl (by decide) ⟨by omega, by omega⟩ (fun c10 => ?_) (fun c10 => ?_)
                            · first | (exfalso; omega; done) | skip
                              all_goals (
                                refine x_iload (i := 118) (pc' := 244) rfl rfl rfl ?_
                                exact m_zreturn (i := 119) rfl rfl (by omega) (by first | exact hQ | (exfalso; omega))
                                skip)
                            · first | (exfalso; omega; done) | skip
                              all_goals (
                                refine x_aload_n (i := 112) (pc' := 233) rfl rfl rfl rfl ?_
                                refine x_iload_n (i := 113) (pc' := 234) rfl rfl rfl rfl ?_
                                refine x_iload (i := 114) (pc' := 236) rfl rfl rfl ?_
                                refine x_iload (i := 115) (pc' := 238) rfl rfl rfl ?_
                                refine m_callV (i := 116) (pc' := 241) (av := [_, _, _]) (rest := []) rfl rfl (by decide) lX12_177 (sh76 G) rfl rfl rfl rfl rfl (Nat.le_of_ble_eq_true rfl) (Nat.le_refl _) (Nat.le_refl _) (s_X12_says hc (csy_0 z1 hc) ?_)
                                dsimp only [psh]
                                refine x_pop (i := 117) (pc' := 242) rfl rfl rfl ?_
                                refine x_iload (i := 118) (pc' := 244) rfl rfl rfl ?_
                                exact m_zreturn (i := 119) rfl rfl (by omega) (by first | exact hQ | (exfalso; omega))
                                skip)
                            skip)
                        skip)
                    skip)
                · first | (exfalso; omega; done) | skip
                  all_goals (
                    refine x_iload (i := 88) (pc' := 187) rfl rfl rfl ?_
                    refine x_goto (i := 89) (pc' := 206) rfl (by decide) ?_
                    refine x_istore (L' := [some _, some _, some _, some _, some _, some _, none, some _, some _]) (i := 99) (pc' := 208) rfl rfl rfl (by decide) rfl ?_
                    refine x_aload_n (i := 100) (pc' := 209) rfl rfl rfl rfl ?_
                    refine x_iload_n (i := 101) (pc' := 210) rfl rfl rfl rfl ?_
                    refine x_iload (i := 102) (pc' := 212) rfl rfl rfl ?_
                    refine x_iload (i := 103) (pc' := 214) rfl rfl rfl ?_
                    refine m_callV (i := 104) (pc' := 217) (av := [_, _, _]) (rest := []) rfl rfl (by decide) lX12_174 (sh76 G) rfl rfl rfl rfl rfl (Nat.le_of_ble_eq_true rfl) (Nat.le_refl _) (Nat.le_refl _) (s_X12_canSay hn hc r0 d1 d2 ?_)
                    dsimp only [psh]
                    refine x_ifne (i := 105) (pc' := 220) (tgt := 224) rfl rfl (by decide) ⟨by omega, by omega⟩ (fun c11 => ?_) (fun c11 => ?_)
                    · first | (exfalso; omega; done) | skip
                      all_goals (
                        refine x_iconst (i := 108) (pc' := 225) rfl rfl ?_
                        refine x_istore (L' := [some _, some _, some _, some _, some _, some _, some _, some _, some _]) (i := 109) (pc' := 227) rfl rfl rfl (by decide) rfl ?_
                        refine x_iload (i := 110) (pc' := 229) rfl rfl rfl ?_
                        refine x_ifeq (i := 111) (pc' := 232) (tgt := 242) rfl rfl (by decide) ⟨by omega, by omega⟩ (fun c12 => ?_) (fun c12 => ?_)
                        · first | (exfalso; omega; done) | skip
                          all_goals (
                            refine x_iload (i := 118) (pc' := 244) rfl rfl rfl ?_
                            exact m_zreturn (i := 119) rfl rfl (by omega) (by first | exact hQ | (exfalso; omega))
                            skip)
                        · first | (exfalso; omega; done) | skip
                          all_goals (
                            refine x_aload_n (i := 112) (pc' := 233) rfl rfl rfl rfl ?_
                            refine x_iload_n (i := 113) (pc' := 234) rfl rfl rfl rfl ?_
                            refine x_iload (i := 114) (pc' := 236) rfl rfl rfl ?_
                            refine x_iload (i := 115) (pc' := 238) rfl rfl rfl ?_
                            refine m_callV (i := 116) (pc' := 241) (av := [_, _, _]) (rest := []) rfl rfl (by decide) lX12_177 (sh76 G) rfl rfl rfl rfl rfl (Nat.le_of_ble_eq_true rfl) (Nat.le_refl _) (Nat.le_refl _) (s_X12_says hc (csy_0 z1 hc) ?_)
                            dsimp only [psh]
                            refine x_pop (i := 117) (pc' := 242) rfl rfl rfl ?_
                            refine x_iload (i := 118) (pc' := 244) rfl rfl rfl ?_
                            exact m_zreturn (i := 119) rfl rfl (by omega) (by first | exact hQ | (exfalso; omega))
                            skip)
                        skip)
                    · first | (exfalso; omega; done) | skip
                      all_goals (
                        refine x_iconst (i := 106) (pc' := 221) rfl rfl ?_
                        refine x_goto (i := 107) (pc' := 225) rfl (by decide) ?_
                        refine x_istore (L' := [some _, some _, some _, some _, some _, some _, some _, some _, some _]) (i := 109) (pc' := 227) rfl rfl rfl (by decide) rfl ?_
                        refine x_iload (i := 110) (pc' := 229) rfl rfl rfl ?_
                        refine x_ifeq (i := 111) (pc' := 232) (tgt := 242) rfl rfl (by decide) ⟨by omega, by omega⟩ (fun c13 => ?_) (fun c13 => ?_)
                        · first | (exfalso; omega; done) | skip
                          all_goals (
                            refine x_iload (i := 118) (pc' := 244) rfl rfl rfl ?_
                            exact m_zreturn (i := 119) rfl rfl (by omega) (by first | exact hQ | (exfalso; omega))
                            skip)
                        · first | (exfalso; omega; done) | skip
                          all_goals (
                            refine x_aload_n (i := 112) (pc' := 233) rfl rfl rfl rfl ?_
                            refine x_iload_n (i := 113) (pc' := 234) rfl rfl rfl rfl ?_
                            refine x_iload (i := 114) (pc' := 236) rfl rfl rfl ?_
                            refine x_iload (i := 115) (pc' := 238) rfl rfl rfl ?_
                            refine m_callV (i := 116) (pc' := 241) (av := [_, _, _]) (rest := []) rfl rfl (by decide) lX12_177 (sh76 G) rfl rfl rfl rfl rfl (Nat.le_of_ble_eq_true rfl) (Nat.le_refl _) (Nat.le_refl _) (s_X12_says hc (csy_0 z1 hc) ?_)
                            dsimp only [psh]
                            refine x_pop (i := 117) (pc' := 242) rfl rfl rfl ?_
                            refine x_iload (i := 118) (pc' := 244) rfl rfl rfl ?_
                            exact m_zreturn (i := 119) rfl rfl (by omega) (by first | exact hQ | (exfalso; omega))
                            skip)
                        skip)
                    skip)
                skip)
            · first | (exfalso; omega; done) | skip
              all_goals (
                refine x_iload (i := 78) (pc' := 169) rfl rfl rfl ?_
                refine x_goto (i := 79) (pc' := 173) rfl (by decide) ?_
                refine x_istore (L' := [some _, some _, some _, some _, some _, some _, none, some _, none]) (i := 81) (pc' := 175) rfl rfl rfl (by decide) rfl ?_
                refine x_aload_n (i := 82) (pc' := 176) rfl rfl rfl rfl ?_
                refine m_getf (i := 83) (pc' := 179) rfl rfl flX12_28 (sh76 G) rfl rfl ?_
                refine x_iload_n (i := 84) (pc' := 180) rfl rfl rfl rfl ?_
                refine m_iald (i := 85) (pc' := 181) rfl rfl (sh83 G) (by decide) ⟨by omega, by omega⟩ ?_
                refine x_iconst (i := 86) (pc' := 182) rfl rfl ?_
                refine x_icmpne (i := 87) (pc' := 185) (tgt := 190) rfl rfl (by decide) ⟨by omega, by omega⟩ ⟨by omega, by omega⟩ (fun c14 => ?_) (fun c14 => ?_)
                · first | (exfalso; omega; done) | skip
                  all_goals (
                    refine x_aload_n (i := 90) (pc' := 191) rfl rfl rfl rfl ?_
                    refine m_getf (i := 91) (pc' := 194) rfl rfl flX12_28 (sh76 G) rfl rfl ?_
                    refine x_iload_n (i := 92) (pc' := 195) rfl rfl rfl rfl ?_
                    refine m_iald (i := 93) (pc' := 196) rfl rfl (sh83 G) (by decide) ⟨by omega, by omega⟩ ?_
                    refine x_iconst (i := 94) (pc' := 197) rfl rfl ?_
                    refine x_icmpne (i := 95) (pc' := 200) (tgt := 205) rfl rfl (by decide) ⟨by omega, by omega⟩ ⟨by omega, by omega⟩ (fun c15 => ?_) (fun c15 => ?_)
                    · first | (exfalso; omega; done) | skip
                      all_goals (
                        refine x_iconst (i := 98) (pc' := 206) rfl rfl ?_
                        refine x_istore (L' := [some _, some _, some _, some _, some _, some _, none, some _, some _]) (i := 99) (pc' := 208) rfl rfl rfl (by decide) rfl ?_
                        refine x_aload_n (i := 100) (pc' := 209) rfl rfl rfl rfl ?_
                        refine x_iload_n (i := 101) (pc' := 210) rfl rfl rfl rfl ?_
                        refine x_iload (i := 102) (pc' := 212) rfl rfl rfl ?_
                        refine x_iload (i := 103) (pc' := 214) rfl rfl rfl ?_
                        refine m_callV (i := 104) (pc' := 217) (av := [_, _, _]) (rest := []) rfl rfl (by decide) lX12_174 (sh76 G) rfl rfl rfl rfl rfl (Nat.le_of_ble_eq_true rfl) (Nat.le_refl _) (Nat.le_refl _) (s_X12_canSay hn hc r0 d1 d2 ?_)
                        dsimp only [psh]
                        refine x_ifne (i := 105) (pc' := 220) (tgt := 224) rfl rfl (by decide) ⟨by omega, by omega⟩ (fun c16 => ?_) (fun c16 => ?_)
                        · first | (exfalso; omega; done) | skip
                          all_goals (
                            refine x_iconst (i := 108) (pc' := 225) rfl rfl ?_
                            refine x_istore (L' := [some _, some _, some _, some _, some _, some _, some _, some _, some _]) (i := 109) (pc' := 227) rfl rfl rfl (by decide) rfl ?_
                            refine x_iload (i := 110) (pc' := 229) rfl rfl rfl ?_
                            refine x_ifeq (i := 111) (pc' := 232) (tgt := 242) rfl rfl (by decide) ⟨by omega, by omega⟩ (fun c17 => ?_) (fun c17 => ?_)
                            · first | (exfalso; omega; done) | skip
                              all_goals (
                                refine x_iload (i := 118) (pc' := 244) rfl rfl rfl ?_
                                exact m_zreturn (i := 119) rfl rfl (by omega) (by first | exact hQ | (exfalso; omega))
                                skip)
                            · first | (exfalso; omega; done) | skip
                              all_goals (
                                refine x_aload_n (i := 112) (pc' := 233) rfl rfl rfl rfl ?_
                                refine x_iload_n (i := 113) (pc' := 234) rfl rfl rfl rfl ?_
                                refine x_iload (i := 114) (pc' := 236) rfl rfl rfl ?_
                                refine x_iload (i := 115) (pc' := 238) rfl rfl rfl ?_
                                refine m_callV (i := 116) (pc' := 241) (av := [_, _, _]) (rest := []) rfl rfl (by decide) lX12_177 (sh76 G) rfl rfl rfl rfl rfl (Nat.le_of_ble_eq_true rfl) (Nat.le_refl _) (Nat.le_refl _) (s_X12_says hc (csy_0 z1 hc) ?_)
                                dsimp only [psh]
                                refine x_pop (i := 117) (pc' := 242) rfl rfl rfl ?_
                                refine x_iload (i := 118) (pc' := 244) rfl rfl rfl ?_
                                exact m_zreturn (i := 119) rfl rfl (by omega) (by first | exact hQ | (exfalso; omega))
                                skip)
                            skip)
                        · first | (exfalso; omega; done) | skip
                          all_goals (
                            refine x_iconst (i := 106) (pc' := 221) rfl rfl ?_
                            refine x_goto (i := 107) (pc' := 225) rfl (by decide) ?_
                            refine x_istore (L' := [some _, some _, some _, some _, some _, some _, some _, some _, some _]) (i := 109) (pc' := 227) rfl rfl rfl (by decide) rfl ?_
                            refine x_iload (i := 110) (pc' := 229) rfl rfl rfl ?_
                            refine x_ifeq (i := 111) (pc' := 232) (tgt := 242) rfl rfl (by decide) ⟨by omega, by omega⟩ (fun c18 => ?_) (fun c18 => ?_)
                            · first | (exfalso; omega; done) | skip
                              all_goals (
                                refine x_iload (i := 118) (pc' := 244) rfl rfl rfl ?_
                                exact m_zreturn (i := 119) rfl rfl (by omega) (by first | exact hQ | (exfalso; omega))
                                skip)
                            · first | (exfalso; omega; done) | skip
                              all_goals (
                                refine x_aload_n (i := 112) (pc' := 233) rfl rfl rfl rfl ?_
                                refine x_iload_n (i := 113) (pc' := 234) rfl rfl rfl rfl ?_
                                refine x_iload (i := 114) (pc' := 236) rfl rfl rfl ?_
                                refine x_iload (i := 115) (pc' := 238) rfl rfl rfl ?_
                                refine m_callV (i := 116) (pc' := 241) (av := [_, _, _]) (rest := []) rfl rfl (by decide) lX12_177 (sh76 G) rfl rfl rfl rfl rfl (Nat.le_of_ble_eq_true rfl) (Nat.le_refl _) (Nat.le_refl _) (s_X12_says hc (csy_0 z1 hc) ?_)
                                dsimp only [psh]
                                refine x_pop (i := 117) (pc' := 242) rfl rfl rfl ?_
                                refine x_iload (i := 118) (pc' := 244) rfl rfl rfl ?_
                                exact m_zreturn (i := 119) rfl rfl (by omega) (by first | exact hQ | (exfalso; omega))
                                skip)
                            skip)
                        skip)
                    · first | (exfalso; omega; done) | skip
                      all_goals (
                        refine x_iload (i := 96) (pc' := 202) rfl rfl rfl ?_
                        refine x_goto (i := 97) (pc' := 206) rfl (by decide) ?_
                        refine x_istore (L' := [some _, some _, some _, some _, some _, some _, none, some _, some _]) (i := 99) (pc' := 208) rfl rfl rfl (by decide) rfl ?_
                        refine x_aload_n (i := 100) (pc' := 209) rfl rfl rfl rfl ?_
                        refine x_iload_n (i := 101) (pc' := 210) rfl rfl rfl rfl ?_
                        refine x_iload (i := 102) (pc' := 212) rfl rfl rfl ?_
                        refine x_iload (i := 103) (pc' := 214) rfl rfl rfl ?_
                        refine m_callV (i := 104) (pc' := 217) (av := [_, _, _]) (rest := []) rfl rfl (by decide) lX12_174 (sh76 G) rfl rfl rfl rfl rfl (Nat.le_of_ble_eq_true rfl) (Nat.le_refl _) (Nat.le_refl _) (s_X12_canSay hn hc r0 d1 d2 ?_)
                        dsimp only [psh]
                        refine x_ifne (i := 105) (pc' := 220) (tgt := 224) rfl rfl (by decide) ⟨by omega, by omega⟩ (fun c19 => ?_) (fun c19 => ?_)
                        · first | (exfalso; omega; done) | skip
                          all_goals (
                            refine x_iconst (i := 108) (pc' := 225) rfl rfl ?_
                            refine x_istore (L' := [some _, some _, some _, some _, some _, some _, some _, some _, some _]) (i := 109) (pc' := 227) rfl rfl rfl (by decide) rfl ?_
                            refine x_iload (i := 110) (pc' := 229) rfl rfl rfl ?_
                            refine x_ifeq (i := 111) (pc' := 232) (tgt := 242) rfl rfl (by decide) ⟨by omega, by omega⟩ (fun c20 => ?_) (fun c20 => ?_)
                            · first | (exfalso; omega; done) | skip
                              all_goals (
                                refine x_iload (i := 118) (pc' := 244) rfl rfl rfl ?_
                                exact m_zreturn (i := 119) rfl rfl (by omega) (by first | exact hQ | (exfalso; omega))
                                skip)
                            · first | (exfalso; omega; done) | skip
                              all_goals (
                                refine x_aload_n (i := 112) (pc' := 233) rfl rfl rfl rfl ?_
                                refine x_iload_n (i := 113) (pc' := 234) rfl rfl rfl rfl ?_
                                refine x_iload (i := 114) (pc' := 236) rfl rfl rfl ?_
                                refine x_iload (i := 115) (pc' := 238) rfl rfl rfl ?_
                                refine m_callV (i := 116) (pc' := 241) (av := [_, _, _]) (rest := []) rfl rfl (by decide) lX12_177 (sh76 G) rfl rfl rfl rfl rfl (Nat.le_of_ble_eq_true rfl) (Nat.le_refl _) (Nat.le_refl _) (s_X12_says hc (csy_0 z1 hc) ?_)
                                dsimp only [psh]
                                refine x_pop (i := 117) (pc' := 242) rfl rfl rfl ?_
                                refine x_iload (i := 118) (pc' := 244) rfl rfl rfl ?_
                                exact m_zreturn (i := 119) rfl rfl (by omega) (by first | exact hQ | (exfalso; omega))
                                skip)
                            skip)
                        · first | (exfalso; omega; done) | skip
                          all_goals (
                            refine x_iconst (i := 106) (pc' := 221) rfl rfl ?_
                            refine x_goto (i := 107) (pc' := 225) rfl (by decide) ?_
                            refine x_istore (L' := [some _, some _, some _, some _, some _, some _, some _, some _, some _]) (i := 109) (pc' := 227) rfl rfl rfl (by decide) rfl ?_
                            refine x_iload (i := 110) (pc' := 229) rfl rfl rfl ?_
                            refine x_ifeq (i := 111) (pc' := 232) (tgt := 242) rfl rfl (by decide) ⟨by omega, by omega⟩ (fun c21 => ?_) (fun c21 => ?_)
                            · first | (exfalso; omega; done) | skip
                              all_goals (
                                refine x_iload (i := 118) (pc' := 244) rfl rfl rfl ?_
                                exact m_zreturn (i := 119) rfl rfl (by omega) (by first | exact hQ | (exfalso; omega))
                                skip)
                            · first | (exfalso; omega; done) | skip
                              all_goals (
                                refine x_aload_n (i := 112) (pc' := 233) rfl rfl rfl rfl ?_
                                refine x_iload_n (i := 113) (pc' := 234) rfl rfl rfl rfl ?_
                                refine x_iload (i := 114) (pc' := 236) rfl rfl rfl ?_
                                refine x_iload (i := 115) (pc' := 238) rfl rfl rfl ?_
                                refine m_callV (i := 116) (pc' := 241) (av := [_, _, _]) (rest := []) rfl rfl (by decide) lX12_177 (sh76 G) rfl rfl rfl rfl rfl (Nat.le_of_ble_eq_true rfl) (Nat.le_refl _) (Nat.le_refl _) (s_X12_says hc (csy_0 z1 hc) ?_)
                                dsimp only [psh]
                                refine x_pop (i := 117) (pc' := 242) rfl rfl rfl ?_
                                refine x_iload (i := 118) (pc' := 244) rfl rfl rfl ?_
                                exact m_zreturn (i := 119) rfl rfl (by omega) (by first | exact hQ | (exfalso; omega))
                                skip)
                            skip)
                        skip)
                    skip)
                · first | (exfalso; omega; done) | skip
                  all_goals (
                    refine x_iload (i := 88) (pc' := 187) rfl rfl rfl ?_
                    refine x_goto (i := 89) (pc' := 206) rfl (by decide) ?_
                    refine x_istore (L' := [some _, some _, some _, some _, some _, some _, none, some _, some _]) (i := 99) (pc' := 208) rfl rfl rfl (by decide) rfl ?_
                    refine x_aload_n (i := 100) (pc' := 209) rfl rfl rfl rfl ?_
                    refine x_iload_n (i := 101) (pc' := 210) rfl rfl rfl rfl ?_
                    refine x_iload (i := 102) (pc' := 212) rfl rfl rfl ?_
                    refine x_iload (i := 103) (pc' := 214) rfl rfl rfl ?_
                    refine m_callV (i := 104) (pc' := 217) (av := [_, _, _]) (rest := []) rfl rfl (by decide) lX12_174 (sh76 G) rfl rfl rfl rfl rfl (Nat.le_of_ble_eq_true rfl) (Nat.le_refl _) (Nat.le_refl _) (s_X12_canSay hn hc r0 d1 d2 ?_)
                    dsimp only [psh]
                    refine x_ifne (i := 105) (pc' := 220) (tgt := 224) rfl rfl (by decide) ⟨by omega, by omega⟩ (fun c22 => ?_) (fun c22 => ?_)
                    · first | (exfalso; omega; done) | skip
                      all_goals (
                        refine x_iconst (i := 108) (pc' := 225) rfl rfl ?_
                        refine x_istore (L' := [some _, some _, some _, some _, some _, some _, some _, some _, some _]) (i := 109) (pc' := 227) rfl rfl rfl (by decide) rfl ?_
                        refine x_iload (i := 110) (pc' := 229) rfl rfl rfl ?_
                        refine x_ifeq (i := 111) (pc' := 232) (tgt := 242) rfl rfl (by decide) ⟨by omega, by omega⟩ (fun c23 => ?_) (fun c23 => ?_)
                        · first | (exfalso; omega; done) | skip
                          all_goals (
                            refine x_iload (i := 118) (pc' := 244) rfl rfl rfl ?_
                            exact m_zreturn (i := 119) rfl rfl (by omega) (by first | exact hQ | (exfalso; omega))
                            skip)
                        · first | (exfalso; omega; done) | skip
                          all_goals (
                            refine x_aload_n (i := 112) (pc' := 233) rfl rfl rfl rfl ?_
                            refine x_iload_n (i := 113) (pc' := 234) rfl rfl rfl rfl ?_
                            refine x_iload (i := 114) (pc' := 236) rfl rfl rfl ?_
                            refine x_iload (i := 115) (pc' := 238) rfl rfl rfl ?_
                            refine m_callV (i := 116) (pc' := 241) (av := [_, _, _]) (rest := []) rfl rfl (by decide) lX12_177 (sh76 G) rfl rfl rfl rfl rfl (Nat.le_of_ble_eq_true rfl) (Nat.le_refl _) (Nat.le_refl _) (s_X12_says hc (csy_0 z1 hc) ?_)
                            dsimp only [psh]
                            refine x_pop (i := 117) (pc' := 242) rfl rfl rfl ?_
                            refine x_iload (i := 118) (pc' := 244) rfl rfl rfl ?_
                            exact m_zreturn (i := 119) rfl rfl (by omega) (by first | exact hQ | (exfalso; omega))
                            skip)
                        skip)
                    · first | (exfalso; omega; done) | skip
                      all_goals (
                        refine x_iconst (i := 106) (pc' := 221) rfl rfl ?_
                        refine x_goto (i := 107) (pc' := 225) rfl (by decide) ?_
                        refine x_istore (L' := [some _, some _, some _, some _, some _, some _, some _, some _, some _]) (i := 109) (pc' := 227) rfl rfl rfl (by decide) rfl ?_
                        refine x_iload (i := 110) (pc' := 229) rfl rfl rfl ?_
                        refine x_ifeq (i := 111) (pc' := 232) (tgt := 242) rfl rfl (by decide) ⟨by omega, by omega⟩ (fun c24 => ?_) (fun c24 => ?_)
                        · first | (exfalso; omega; done) | skip
                          all_goals (
                            refine x_iload (i := 118) (pc' := 244) rfl rfl rfl ?_
                            exact m_zreturn (i := 119) rfl rfl (by omega) (by first | exact hQ | (exfalso; omega))
                            skip)
                        · first | (exfalso; omega; done) | skip
                          all_goals (
                            refine x_aload_n (i := 112) (pc' := 233) rfl rfl rfl rfl ?_
                            refine x_iload_n (i := 113) (pc' := 234) rfl rfl rfl rfl ?_
                            refine x_iload (i := 114) (pc' := 236) rfl rfl rfl ?_
                            refine x_iload (i := 115) (pc' := 238) rfl rfl rfl ?_
                            refine m_callV (i := 116) (pc' := 241) (av := [_, _, _]) (rest := []) rfl rfl (by decide) lX12_177 (sh76 G) rfl rfl rfl rfl rfl (Nat.le_of_ble_eq_true rfl) (Nat.le_refl _) (Nat.le_refl _) (s_X12_says hc (csy_0 z1 hc) ?_)
                            dsimp only [psh]
                            refine x_pop (i := 117) (pc' := 242) rfl rfl rfl ?_
                            refine x_iload (i := 118) (pc' := 244) rfl rfl rfl ?_
                            exact m_zreturn (i := 119) rfl rfl (by omega) (by first | exact hQ | (exfalso; omega))
                            skip)
                        skip)
                    skip)
                skip)
            skip)
        · first | (exfalso; omega; done) | skip
          all_goals (
            refine x_look (i := 27) (off := 270) (tgt := 308) rfl (by decide) ⟨by omega, by omega⟩ (by simp [Op.lookupswitch.offset]; (repeat' split) <;> omega) (by decide) ?_
            exfalso; omega
            skip)
    · have ef : dtf m k = -1 := by unfold dtf; rw [if_neg q3.1]
      have et : dtt m k = -1 := by unfold dtt; rw [if_neg q3.1, if_neg q3.2]
      by_cases z1 : dwc m k = 0
      · rw [if_pos z1, if_pos z1] at hQ
        unfold dwc at z1
        rw [ef] at d1
        rw [et] at d2
        rw [ef, et] at z1 hQ c2
        refine x_bipush (i := 0) (pc' := 2) rfl rfl (by decide) ?_
        refine x_iload_n (i := 1) (pc' := 3) rfl rfl rfl rfl ?_
        refine x_imul (i := 2) (pc' := 4) rfl rfl ?_
        refine x_istore_n (L' := [some _, some _, some _, none, none, none, none, none, none]) (i := 3) (pc' := 5) rfl rfl rfl rfl (by decide) rfl ?_
        refine x_aload_n (i := 4) (pc' := 6) rfl rfl rfl rfl ?_
        refine m_getf (i := 5) (pc' := 9) rfl rfl flX12_31 (sh76 G) rfl rfl ?_
        refine x_iload_n (i := 6) (pc' := 10) rfl rfl rfl rfl ?_
        refine m_iald (i := 7) (pc' := 11) rfl rfl (sh84 G) (by decide) ⟨by omega, by omega⟩ ?_
        refine x_istore_n (L' := [some _, some _, some _, some _, none, none, none, none, none]) (i := 8) (pc' := 12) rfl rfl rfl rfl (by decide) rfl ?_
        refine x_aload_n (i := 9) (pc' := 13) rfl rfl rfl rfl ?_
        refine m_getf (i := 10) (pc' := 16) rfl rfl flX12_31 (sh76 G) rfl rfl ?_
        refine x_iload_n (i := 11) (pc' := 17) rfl rfl rfl rfl ?_
        refine x_iconst (i := 12) (pc' := 18) rfl rfl ?_
        refine x_iadd (i := 13) (pc' := 19) rfl rfl ?_
        refine m_iald (i := 14) (pc' := 20) rfl rfl (sh84 G) (by decide) ⟨by omega, by omega⟩ ?_
        refine x_istore (L' := [some _, some _, some _, some _, some _, none, none, none, none]) (i := 15) (pc' := 22) rfl rfl rfl (by decide) rfl ?_
        refine x_aload_n (i := 16) (pc' := 23) rfl rfl rfl rfl ?_
        refine m_getf (i := 17) (pc' := 26) rfl rfl flX12_31 (sh76 G) rfl rfl ?_
        refine x_iload_n (i := 18) (pc' := 27) rfl rfl rfl rfl ?_
        refine x_iconst (i := 19) (pc' := 28) rfl rfl ?_
        refine x_iadd (i := 20) (pc' := 29) rfl rfl ?_
        refine m_iald (i := 21) (pc' := 30) rfl rfl (sh84 G) (by decide) ⟨by omega, by omega⟩ ?_
        refine x_istore (L' := [some _, some _, some _, some _, some _, some _, none, none, none]) (i := 22) (pc' := 32) rfl rfl rfl (by decide) rfl ?_
        refine x_aload_n (i := 23) (pc' := 33) rfl rfl rfl rfl ?_
        refine m_getf (i := 24) (pc' := 36) rfl rfl flX12_25 (sh76 G) rfl rfl ?_
        refine x_iload_n (i := 25) (pc' := 37) rfl rfl rfl rfl ?_
        refine m_iald (i := 26) (pc' := 38) rfl rfl (sh82 G) (by decide) ⟨by omega, by omega⟩ ?_
        rcases (by omega : m 82 k = 100 ∨ m 82 k = 103 ∨ m 82 k = 108 ∨ m 82 k = 115 ∨ m 82 k = 119 ∨ (¬ m 82 k = 100 ∧ ¬ m 82 k = 103 ∧ ¬ m 82 k = 108 ∧ ¬ m 82 k = 115 ∧ ¬ m 82 k = 119)) with c1 | c1 | c1 | c1 | c1 | c1
        · first | (exfalso; omega; done) | skip
          all_goals (
            refine x_look (i := 27) (off := 241) (tgt := 279) rfl (by decide) ⟨by omega, by omega⟩ (by rw [c1]; rfl) (by decide) ?_
            exfalso; omega
            skip)
        · first | (exfalso; omega; done) | skip
          all_goals (
            refine x_look (i := 27) (off := 207) (tgt := 245) rfl (by decide) ⟨by omega, by omega⟩ (by rw [c1]; rfl) (by decide) ?_
            exfalso; omega
            skip)
        · first | (exfalso; omega; done) | skip
          all_goals (
            refine x_look (i := 27) (off := 235) (tgt := 273) rfl (by decide) ⟨by omega, by omega⟩ (by rw [c1]; rfl) (by decide) ?_
            exfalso; omega
            skip)
        · first | (exfalso; omega; done) | skip
          all_goals (
            refine x_look (i := 27) (off := 50) (tgt := 88) rfl (by decide) ⟨by omega, by omega⟩ (by rw [c1]; rfl) (by decide) ?_
            exfalso; omega
            skip)
        · first | (exfalso; omega; done) | skip
          all_goals (
            refine x_look (i := 27) (off := 119) (tgt := 157) rfl (by decide) ⟨by omega, by omega⟩ (by rw [c1]; rfl) (by decide) ?_
            refine x_aload_n (i := 72) (pc' := 158) rfl rfl rfl rfl ?_
            refine m_getf (i := 73) (pc' := 161) rfl rfl flX12_28 (sh76 G) rfl rfl ?_
            refine x_iload_n (i := 74) (pc' := 162) rfl rfl rfl rfl ?_
            refine m_iald (i := 75) (pc' := 163) rfl rfl (sh83 G) (by decide) ⟨by omega, by omega⟩ ?_
            refine x_iconst (i := 76) (pc' := 164) rfl rfl ?_
            refine x_icmpne (i := 77) (pc' := 167) (tgt := 172) rfl rfl (by decide) ⟨by omega, by omega⟩ ⟨by omega, by omega⟩ (fun c2 => ?_) (fun c2 => ?_)
            · first | (exfalso; omega; done) | skip
              all_goals (
                refine x_iconst (i := 80) (pc' := 173) rfl rfl ?_
                refine x_istore (L' := [some _, some _, some _, some _, some _, some _, none, some _, none]) (i := 81) (pc' := 175) rfl rfl rfl (by decide) rfl ?_
                refine x_aload_n (i := 82) (pc' := 176) rfl rfl rfl rfl ?_
                refine m_getf (i := 83) (pc' := 179) rfl rfl flX12_28 (sh76 G) rfl rfl ?_
                refine x_iload_n (i := 84) (pc' := 180) rfl rfl rfl rfl ?_
                refine m_iald (i := 85) (pc' := 181) rfl rfl (sh83 G) (by decide) ⟨by omega, by omega⟩ ?_
                refine x_iconst (i := 86) (pc' := 182) rfl rfl ?_
                refine x_icmpne (i := 87) (pc' := 185) (tgt := 190) rfl rfl (by decide) ⟨by omega, by omega⟩ ⟨by omega, by omega⟩ (fun c3 => ?_) (fun c3 => ?_)
                · first | (exfalso; omega; done) | skip
                  all_goals (
                    refine x_aload_n (i := 90) (pc' := 191) rfl rfl rfl rfl ?_
                    refine m_getf (i := 91) (pc' := 194) rfl rfl flX12_28 (sh76 G) rfl rfl ?_
                    refine x_iload_n (i := 92) (pc' := 195) rfl rfl rfl rfl ?_
                    refine m_iald (i := 93) (pc' := 196) rfl rfl (sh83 G) (by decide) ⟨by omega, by omega⟩ ?_
                    refine x_iconst (i := 94) (pc' := 197) rfl rfl ?_
                    refine x_icmpne (i := 95) (pc' := 200) (tgt := 205) rfl rfl (by decide) ⟨by omega, by omega⟩ ⟨by omega, by omega⟩ (fun c4 => ?_) (fun c4 => ?_)
                    · first | (exfalso; omega; done) | skip
                      all_goals (
                        refine x_iconst (i := 98) (pc' := 206) rfl rfl ?_
                        refine x_istore (L' := [some _, some _, some _, some _, some _, some _, none, some _, some _]) (i := 99) (pc' := 208) rfl rfl rfl (by decide) rfl ?_
                        refine x_aload_n (i := 100) (pc' := 209) rfl rfl rfl rfl ?_
                        refine x_iload_n (i := 101) (pc' := 210) rfl rfl rfl rfl ?_
                        refine x_iload (i := 102) (pc' := 212) rfl rfl rfl ?_
                        refine x_iload (i := 103) (pc' := 214) rfl rfl rfl ?_
                        refine m_callV (i := 104) (pc' := 217) (av := [_, _, _]) (rest := []) rfl rfl (by decide) lX12_174 (sh76 G) rfl rfl rfl rfl rfl (Nat.le_of_ble_eq_true rfl) (Nat.le_refl _) (Nat.le_refl _) (s_X12_canSay hn hc r0 d1 d2 ?_)
                        dsimp only [psh]
                        refine x_ifne (i := 105) (pc' := 220) (tgt := 224) rfl rfl (by decide) ⟨by omega, by omega⟩ (fun c5 => ?_) (fun c5 => ?_)
                        · first | (exfalso; omega; done) | skip
                          all_goals (
                            refine x_iconst (i := 108) (pc' := 225) rfl rfl ?_
                            refine x_istore (L' := [some _, some _, some _, some _, some _, some _, some _, some _, some _]) (i := 109) (pc' := 227) rfl rfl rfl (by decide) rfl ?_
                            refine x_iload (i := 110) (pc' := 229) rfl rfl rfl ?_
                            refine x_ifeq (i := 111) (pc' := 232) (tgt := 242) rfl rfl (by decide) ⟨by omega, by omega⟩ (fun c6 => ?_) (fun c6 => ?_)
                            · first | (exfalso; omega; done) | skip
                              all_goals (
                                refine x_iload (i := 118) (pc' := 244) rfl rfl rfl ?_
                                exact m_zreturn (i := 119) rfl rfl (by omega) (by first | exact hQ | (exfalso; omega))
                                skip)
                            · first | (exfalso; omega; done) | skip
                              all_goals (
                                refine x_aload_n (i := 112) (pc' := 233) rfl rfl rfl rfl ?_
                                refine x_iload_n (i := 113) (pc' := 234) rfl rfl rfl rfl ?_
                                refine x_iload (i := 114) (pc' := 236) rfl rfl rfl ?_
                                refine x_iload (i := 115) (pc' := 238) rfl rfl rfl ?_
                                refine m_callV (i := 116) (pc' := 241) (av := [_, _, _]) (rest := []) rfl rfl (by decide) lX12_177 (sh76 G) rfl rfl rfl rfl rfl (Nat.le_of_ble_eq_true rfl) (Nat.le_refl _) (Nat.le_refl _) (s_X12_says hc (csy_0 z1 hc) ?_)
                                dsimp only [psh]
                                refine x_pop (i := 117) (pc' := 242) rfl rfl rfl ?_
                                refine x_iload (i := 118) (pc' := 244) rfl rfl rfl ?_
                                exact m_zreturn (i := 119) rfl rfl (by omega) (by first | exact hQ | (exfalso; omega))
                                skip)
                            skip)
                        · first | (exfalso; omega; done) | skip
                          all_goals (
                            refine x_iconst (i := 106) (pc' := 221) rfl rfl ?_
                            refine x_goto (i := 107) (pc' := 225) rfl (by decide) ?_
                            refine x_istore (L' := [some _, some _, some _, some _, some _, some _, some _, some _, some _]) (i := 109) (pc' := 227) rfl rfl rfl (by decide) rfl ?_
                            refine x_iload (i := 110) (pc' := 229) rfl rfl rfl ?_
                            refine x_ifeq (i := 111) (pc' := 232) (tgt := 242) rfl rfl (by decide) ⟨by omega, by omega⟩ (fun c7 => ?_) (fun c7 => ?_)
                            · first | (exfalso; omega; done) | skip
                              all_goals (
                                refine x_iload (i := 118) (pc' := 244) rfl rfl rfl ?_
                                exact m_zreturn (i := 119) rfl rfl (by omega) (by first | exact hQ | (exfalso; omega))
                                skip)
                            · first | (exfalso; omega; done) | skip
                              all_goals (
                                refine x_aload_n (i := 112) (pc' := 233) rfl rfl rfl rfl ?_
                                refine x_iload_n (i := 113) (pc' := 234) rfl rfl rfl rfl ?_
                                refine x_iload (i := 114) (pc' := 236) rfl rfl rfl ?_
                                refine x_iload (i := 115) (pc' := 238) rfl rfl rfl ?_
                                refine m_callV (i := 116) (pc' := 241) (av := [_, _, _]) (rest := []) rfl rfl (by decide) lX12_177 (sh76 G) rfl rfl rfl rfl rfl (Nat.le_of_ble_eq_true rfl) (Nat.le_refl _) (Nat.le_refl _) (s_X12_says hc (csy_0 z1 hc) ?_)
                                dsimp only [psh]
                                refine x_pop (i := 117) (pc' := 242) rfl rfl rfl ?_
                                refine x_iload (i := 118) (pc' := 244) rfl rfl rfl ?_
                                exact m_zreturn (i := 119) rfl rfl (by omega) (by first | exact hQ | (exfalso; omega))
                                skip)
                            skip)
                        skip)
                    · first | (exfalso; omega; done) | skip
                      all_goals (
                        refine x_iload (i := 96) (pc' := 202) rfl rfl rfl ?_
                        refine x_goto (i := 97) (pc' := 206) rfl (by decide) ?_
                        refine x_istore (L' := [some _, some _, some _, some _, some _, some _, none, some _, some _]) (i := 99) (pc' := 208) rfl rfl rfl (by decide) rfl ?_
                        refine x_aload_n (i := 100) (pc' := 209) rfl rfl rfl rfl ?_
                        refine x_iload_n (i := 101) (pc' := 210) rfl rfl rfl rfl ?_
                        refine x_iload (i := 102) (pc' := 212) rfl rfl rfl ?_
                        refine x_iload (i := 103) (pc' := 214) rfl rfl rfl ?_
                        refine m_callV (i := 104) (pc' := 217) (av := [_, _, _]) (rest := []) rfl rfl (by decide) lX12_174 (sh76 G) rfl rfl rfl rfl rfl (Nat.le_of_ble_eq_true rfl) (Nat.le_refl _) (Nat.le_refl _) (s_X12_canSay hn hc r0 d1 d2 ?_)
                        dsimp only [psh]
                        refine x_ifne (i := 105) (pc' := 220) (tgt := 224) rfl rfl (by decide) ⟨by omega, by omega⟩ (fun c8 => ?_) (fun c8 => ?_)
                        · first | (exfalso; omega; done) | skip
                          all_goals (
                            refine x_iconst (i := 108) (pc' := 225) rfl rfl ?_
                            refine x_istore (L' := [some _, some _, some _, some _, some _, some _, some _, some _, some _]) (i := 109) (pc' := 227) rfl rfl rfl (by decide) rfl ?_
                            refine x_iload (i := 110) (pc' := 229) rfl rfl rfl ?_
                            refine x_ifeq (i := 111) (pc' := 232) (tgt := 242) rfl rfl (by decide) ⟨by omega, by omega⟩ (fun c9 => ?_) (fun c9 => ?_)
                            · first | (exfalso; omega; done) | skip
                              all_goals (
                                refine x_iload (i := 118) (pc' := 244) rfl rfl rfl ?_
                                exact m_zreturn (i := 119) rfl rfl (by omega) (by first | exact hQ | (exfalso; omega))
                                skip)
                            · first | (exfalso; omega; done) | skip
                              all_goals (
                                refine x_aload_n (i := 112) (pc' := 233) rfl rfl rfl rfl ?_
                                refine x_iload_n (i := 113) (pc' := 234) rfl rfl rfl rfl ?_
                                refine x_iload (i := 114) (pc' := 236) rfl rfl rfl ?_
                                refine x_iload (i := 115) (pc' := 238) rfl rfl rfl ?_
                                refine m_callV (i := 116) (pc' := 241) (av := [_, _, _]) (rest := []) rfl rfl (by decide) lX12_177 (sh76 G) rfl rfl rfl rfl rfl (Nat.le_of_ble_eq_true rfl) (Nat.le_refl _) (Nat.le_refl _) (s_X12_says hc (csy_0 z1 hc) ?_)
                                dsimp only [psh]
                                refine x_pop (i := 117) (pc' := 242) rfl rfl rfl ?_
                                refine x_iload (i := 118) (pc' := 244) rfl rfl rfl ?_
                                exact m_zreturn (i := 119) rfl rfl (by omega) (by first | exact hQ | (exfalso; omega))
                                skip)
                            skip)
                        · first | (exfalso; omega; done) | skip
                          all_goals (
                            refine x_iconst (i := 106) (pc' := 221) rfl rfl ?_
                            refine x_goto (i := 107) (pc' := 225) rfl (by decide) ?_
                            refine x_istore (L' := [some _, some _, some _, some _, some _, some _, some _, some _, some _]) (i := 109) (pc' := 227) rfl rfl rfl (by decide) rfl ?_
                            refine x_iload (i := 110) (pc' := 229) rfl rfl rfl ?_
                            refine x_ifeq (i := 111) (pc' := 232) (tgt := 242) rfl rfl (by decide) ⟨by omega, by omega⟩ (fun c10 => ?_) (fun c10 => ?_)
                            · first | (exfalso; omega; done) | skip
                              all_goals (
                                refine x_iload (i := 118) (pc' := 244) rfl rfl rfl ?_
                                exact m_zreturn (i := 119) rfl rfl (by omega) (by first | exact hQ | (exfalso; omega))
                                skip)
                            · first | (exfalso; omega; done) | skip
                              all_goals (
                                refine x_aload_n (i := 112) (pc' := 233) rfl rfl rfl rfl ?_
                                refine x_iload_n (i := 113) (pc' := 234) rfl rfl rfl rfl ?_
                                refine x_iload (i := 114) (pc' := 236) rfl rfl rfl ?_
                                refine x_iload (i := 115) (pc' := 238) rfl rfl rfl ?_
                                refine m_callV (i := 116) (pc' := 241) (av := [_, _, _]) (rest := []) rfl rfl (by decide) lX12_177 (sh76 G) rfl rfl rfl rfl rfl (Nat.le_of_ble_eq_true rfl) (Nat.le_refl _) (Nat.le_refl _) (s_X12_says hc (csy_0 z1 hc) ?_)
                                dsimp only [psh]
                                refine x_pop (i := 117) (pc' := 242) rfl rfl rfl ?_
                                refine x_iload (i := 118) (pc' := 244) rfl rfl rfl ?_
                                exact m_zreturn (i := 119) rfl rfl (by omega) (by first | exact hQ | (exfalso; omega))
                                skip)
                            skip)
                        skip)
                    skip)
                · first | (exfalso; omega; done) | skip
                  all_goals (
                    refine x_iload (i := 88) (pc' := 187) rfl rfl rfl ?_
                    refine x_goto (i := 89) (pc' := 206) rfl (by decide) ?_
                    refine x_istore (L' := [some _, some _, some _, some _, some _, some _, none, some _, some _]) (i := 99) (pc' := 208) rfl rfl rfl (by decide) rfl ?_
                    refine x_aload_n (i := 100) (pc' := 209) rfl rfl rfl rfl ?_
                    refine x_iload_n (i := 101) (pc' := 210) rfl rfl rfl rfl ?_
                    refine x_iload (i := 102) (pc' := 212) rfl rfl rfl ?_
                    refine x_iload (i := 103) (pc' := 214) rfl rfl rfl ?_
                    refine m_callV (i := 104) (pc' := 217) (av := [_, _, _]) (rest := []) rfl rfl (by decide) lX12_174 (sh76 G) rfl rfl rfl rfl rfl (Nat.le_of_ble_eq_true rfl) (Nat.le_refl _) (Nat.le_refl _) (s_X12_canSay hn hc r0 d1 d2 ?_)
                    dsimp only [psh]
                    refine x_ifne (i := 105) (pc' := 220) (tgt := 224) rfl rfl (by decide) ⟨by omega, by omega⟩ (fun c11 => ?_) (fun c11 => ?_)
                    · first | (exfalso; omega; done) | skip
                      all_goals (
                        refine x_iconst (i := 108) (pc' := 225) rfl rfl ?_
                        refine x_istore (L' := [some _, some _, some _, some _, some _, some _, some _, some _, some _]) (i := 109) (pc' := 227) rfl rfl rfl (by decide) rfl ?_
                        refine x_iload (i := 110) (pc' := 229) rfl rfl rfl ?_
                        refine x_ifeq (i := 111) (pc' := 232) (tgt := 242) rfl rfl (by decide) ⟨by omega, by omega⟩ (fun c12 => ?_) (fun c12 => ?_)
                        · first | (exfalso; omega; done) | skip
                          all_goals (
                            refine x_iload (i := 118) (pc' := 244) rfl rfl rfl ?_
                            exact m_zreturn (i := 119) rfl rfl (by omega) (by first | exact hQ | (exfalso; omega))
                            skip)
                        · first | (exfalso; omega; done) | skip
                          all_goals (
                            refine x_aload_n (i := 112) (pc' := 233) rfl rfl rfl rfl ?_
                            refine x_iload_n (i := 113) (pc' := 234) rfl rfl rfl rfl ?_
                            refine x_iload (i := 114) (pc' := 236) rfl rfl rfl ?_
                            refine x_iload (i := 115) (pc' := 238) rfl rfl rfl ?_
                            refine m_callV (i := 116) (pc' := 241) (av := [_, _, _]) (rest := []) rfl rfl (by decide) lX12_177 (sh76 G) rfl rfl rfl rfl rfl (Nat.le_of_ble_eq_true rfl) (Nat.le_refl _) (Nat.le_refl _) (s_X12_says hc (csy_0 z1 hc) ?_)
                            dsimp only [psh]
                            refine x_pop (i := 117) (pc' := 242) rfl rfl rfl ?_
                            refine x_iload (i := 118) (pc' := 244) rfl rfl rfl ?_
                            exact m_zreturn (i := 119) rfl rfl (by omega) (by first | exact hQ | (exfalso; omega))
                            skip)
                        skip)
                    · first | (exfalso; omega; done) | skip
                      all_goals (
                        refine x_iconst (i := 106) (pc' := 221) rfl rfl ?_
                        refine x_goto (i := 107) (pc' := 225) rfl (by decide) ?_
                        refine x_istore (L' := [some _, some _, some _, some _, some _, some _, some _, some _, some _]) (i := 109) (pc' := 227) rfl rfl rfl (by decide) rfl ?_
                        refine x_iload (i := 110) (pc' := 229) rfl rfl rfl ?_
                        refine x_ifeq (i := 111) (pc' := 232) (tgt := 242) rfl rfl (by decide) ⟨by omega, by omega⟩ (fun c13 => ?_) (fun c13 => ?_)
                        · first | (exfalso; omega; done) | skip
                          all_goals (
                            refine x_iload (i := 118) (pc' := 244) rfl rfl rfl ?_
                            exact m_zreturn (i := 119) rfl rfl (by omega) (by first | exact hQ | (exfalso; omega))
                            skip)
                        · first | (exfalso; omega; done) | skip
                          all_goals (
                            refine x_aload_n (i := 112) (pc' := 233) rfl rfl rfl rfl ?_
                            refine x_iload_n (i := 113) (pc' := 234) rfl rfl rfl rfl ?_
                            refine x_iload (i := 114) (pc' := 236) rfl rfl rfl ?_
                            refine x_iload (i := 115) (pc' := 238) rfl rfl rfl ?_
                            refine m_callV (i := 116) (pc' := 241) (av := [_, _, _]) (rest := []) rfl rfl (by decide) lX12_177 (sh76 G) rfl rfl rfl rfl rfl (Nat.le_of_ble_eq_true rfl) (Nat.le_refl _) (Nat.le_refl _) (s_X12_says hc (csy_0 z1 hc) ?_)
                            dsimp only [psh]
                            refine x_pop (i := 117) (pc' := 242) rfl rfl rfl ?_
                            refine x_iload (i := 118) (pc' := 244) rfl rfl rfl ?_
                            exact m_zreturn (i := 119) rfl rfl (by omega) (by first | exact hQ | (exfalso; omega))
                            skip)
                        skip)
                    skip)
                skip)
            · first | (exfalso; omega; done) | skip
              all_goals (
                refine x_iload (i := 78) (pc' := 169) rfl rfl rfl ?_
                refine x_goto (i := 79) (pc' := 173) rfl (by decide) ?_
                refine x_istore (L' := [some _, some _, some _, some _, some _, some _, none, some _, none]) (i := 81) (pc' := 175) rfl rfl rfl (by decide) rfl ?_
                refine x_aload_n (i := 82) (pc' := 176) rfl rfl rfl rfl ?_
                refine m_getf (i := 83) (pc' := 179) rfl rfl flX12_28 (sh76 G) rfl rfl ?_
                refine x_iload_n (i := 84) (pc' := 180) rfl rfl rfl rfl ?_
                refine m_iald (i := 85) (pc' := 181) rfl rfl (sh83 G) (by decide) ⟨by omega, by omega⟩ ?_
                refine x_iconst (i := 86) (pc' := 182) rfl rfl ?_
                refine x_icmpne (i := 87) (pc' := 185) (tgt := 190) rfl rfl (by decide) ⟨by omega, by omega⟩ ⟨by omega, by omega⟩ (fun c14 => ?_) (fun c14 => ?_)
                · first | (exfalso; omega; done) | skip
                  all_goals (
                    refine x_aload_n (i := 90) (pc' := 191) rfl rfl rfl rfl ?_
                    refine m_getf (i := 91) (pc' := 194) rfl rfl flX12_28 (sh76 G) rfl rfl ?_
                    refine x_iload_n (i := 92) (pc' := 195) rfl rfl rfl rfl ?_
                    refine m_iald (i := 93) (pc' := 196) rfl rfl (sh83 G) (by decide) ⟨by omega, by omega⟩ ?_
                    refine x_iconst (i := 94) (pc' := 197) rfl rfl ?_
                    refine x_icmpne (i := 95) (pc' := 200) (tgt := 205) rfl rfl (by decide) ⟨by omega, by omega⟩ ⟨by omega, by omega⟩ (fun c15 => ?_) (fun c15 => ?_)
                    · first | (exfalso; omega; done) | skip
                      all_goals (
                        refine x_iconst (i := 98) (pc' := 206) rfl rfl ?_
                        refine x_istore (L' := [some _, some _, some _, some _, some _, some _, none, some _, some _]) (i := 99) (pc' := 208) rfl rfl rfl (by decide) rfl ?_
                        refine x_aload_n (i := 100) (pc' := 209) rfl rfl rfl rfl ?_
                        refine x_iload_n (i := 101) (pc' := 210) rfl rfl rfl rfl ?_
                        refine x_iload (i := 102) (pc' := 212) rfl rfl rfl ?_
                        refine x_iload (i := 103) (pc' := 214) rfl rfl rfl ?_
                        refine m_callV (i := 104) (pc' := 217) (av := [_, _, _]) (rest := []) rfl rfl (by decide) lX12_174 (sh76 G) rfl rfl rfl rfl rfl (Nat.le_of_ble_eq_true rfl) (Nat.le_refl _) (Nat.le_refl _) (s_X12_canSay hn hc r0 d1 d2 ?_)
                        dsimp only [psh]
                        refine x_ifne (i := 105) (pc' := 220) (tgt := 224) rfl rfl (by decide) ⟨by omega, by omega⟩ (fun c16 => ?_) (fun c16 => ?_)
                        · first | (exfalso; omega; done) | skip
                          all_goals (
                            refine x_iconst (i := 108) (pc' := 225) rfl rfl ?_
                            refine x_istore (L' := [some _, some _, some _, some _, some _, some _, some _, some _, some _]) (i := 109) (pc' := 227) rfl rfl rfl (by decide) rfl ?_
                            refine x_iload (i := 110) (pc' := 229) rfl rfl rfl ?_
                            refine x_ifeq (i := 111) (pc' := 232) (tgt := 242) rfl rfl (by decide) ⟨by omega, by omega⟩ (fun c17 => ?_) (fun c17 => ?_)
                            · first | (exfalso; omega; done) | skip
                              all_goals (
                                refine x_iload (i := 118) (pc' := 244) rfl rfl rfl ?_
                                exact m_zreturn (i := 119) rfl rfl (by omega) (by first | exact hQ | (exfalso; omega))
                                skip)
                            · first | (exfalso; omega; done) | skip
                              all_goals (
                                refine x_aload_n (i := 112) (pc' := 233) rfl rfl rfl rfl ?_
                                refine x_iload_n (i := 113) (pc' := 234) rfl rfl rfl rfl ?_
                                refine x_iload (i := 114) (pc' := 236) rfl rfl rfl ?_
                                refine x_iload (i := 115) (pc' := 238) rfl rfl rfl ?_
                                refine m_callV (i := 116) (pc' := 241) (av := [_, _, _]) (rest := []) rfl rfl (by decide) lX12_177 (sh76 G) rfl rfl rfl rfl rfl (Nat.le_of_ble_eq_true rfl) (Nat.le_refl _) (Nat.le_refl _) (s_X12_says hc (csy_0 z1 hc) ?_)
                                dsimp only [psh]
                                refine x_pop (i := 117) (pc' := 242) rfl rfl rfl ?_
                                refine x_iload (i := 118) (pc' := 244) rfl rfl rfl ?_
                                exact m_zreturn (i := 119) rfl rfl (by omega) (by first | exact hQ | (exfalso; omega))
                                skip)
                            skip)
                        · first | (exfalso; omega; done) | skip
                          all_goals (
                            refine x_iconst (i := 106) (pc' := 221) rfl rfl ?_
                            refine x_goto (i := 107) (pc' := 225) rfl (by decide) ?_
                            refine x_istore (L' := [some _, some _, some _, some _, some _, some _, some _, some _, some _]) (i := 109) (pc' := 227) rfl rfl rfl (by decide) rfl ?_
                            refine x_iload (i := 110) (pc' := 229) rfl rfl rfl ?_
                            refine x_ifeq (i := 111) (pc' := 232) (tgt := 242) rfl rfl (by decide) ⟨by omega, by omega⟩ (fun c18 => ?_) (fun c18 => ?_)
                            · first | (exfalso; omega; done) | skip
                              all_goals (
                                refine x_iload (i := 118) (pc' := 244) rfl rfl rfl ?_
                                exact m_zreturn (i := 119) rfl rfl (by omega) (by first | exact hQ | (exfalso; omega))
                                skip)
                            · first | (exfalso; omega; done) | skip
                              all_goals (
                                refine x_aload_n (i := 112) (pc' := 233) rfl rfl rfl rfl ?_
                                refine x_iload_n (i := 113) (pc' := 234) rfl rfl rfl rfl ?_
                                refine x_iload (i := 114) (pc' := 236) rfl rfl rfl ?_
                                refine x_iload (i := 115) (pc' := 238) rfl rfl rfl ?_
                                refine m_callV (i := 116) (pc' := 241) (av := [_, _, _]) (rest := []) rfl rfl (by decide) lX12_177 (sh76 G) rfl rfl rfl rfl rfl (Nat.le_of_ble_eq_true rfl) (Nat.le_refl _) (Nat.le_refl _) (s_X12_says hc (csy_0 z1 hc) ?_)
                                dsimp only [psh]
                                refine x_pop (i := 117) (pc' := 242) rfl rfl rfl ?_
                                refine x_iload (i := 118) (pc' := 244) rfl rfl rfl ?_
                                exact m_zreturn (i := 119) rfl rfl (by omega) (by first | exact hQ | (exfalso; omega))
                                skip)
                            skip)
                        skip)
                    · first | (exfalso; omega; done) | skip
                      all_goals (
                        refine x_iload (i := 96) (pc' := 202) rfl rfl rfl ?_
                        refine x_goto (i := 97) (pc' := 206) rfl (by decide) ?_
                        refine x_istore (L' := [some _, some _, some _, some _, some _, some _, none, some _, some _]) (i := 99) (pc' := 208) rfl rfl rfl (by decide) rfl ?_
                        refine x_aload_n (i := 100) (pc' := 209) rfl rfl rfl rfl ?_
                        refine x_iload_n (i := 101) (pc' := 210) rfl rfl rfl rfl ?_
                        refine x_iload (i := 102) (pc' := 212) rfl rfl rfl ?_
                        refine x_iload (i := 103) (pc' := 214) rfl rfl rfl ?_
                        refine m_callV (i := 104) (pc' := 217) (av := [_, _, _]) (rest := []) rfl rfl (by decide) lX12_174 (sh76 G) rfl rfl rfl rfl rfl (Nat.le_of_ble_eq_true rfl) (Nat.le_refl _) (Nat.le_refl _) (s_X12_canSay hn hc r0 d1 d2 ?_)
                        dsimp only [psh]
                        refine x_ifne (i := 105) (pc' := 220) (tgt := 224) rfl rfl (by decide) ⟨by omega, by omega⟩ (fun c19 => ?_) (fun c19 => ?_)
                        · first | (exfalso; omega; done) | skip
                          all_goals (
                            refine x_iconst (i := 108) (pc' := 225) rfl rfl ?_
                            refine x_istore (L' := [some _, some _, some _, some _, some _, some _, some _, some _, some _]) (i := 109) (pc' := 227) rfl rfl rfl (by decide) rfl ?_
                            refine x_iload (i := 110) (pc' := 229) rfl rfl rfl ?_
                            refine x_ifeq (i := 111) (pc' := 232) (tgt := 242) rfl rfl (by decide) ⟨by omega, by omega⟩ (fun c20 => ?_) (fun c20 => ?_)
                            · first | (exfalso; omega; done) | skip
                              all_goals (
                                refine x_iload (i := 118) (pc' := 244) rfl rfl rfl ?_
                                exact m_zreturn (i := 119) rfl rfl (by omega) (by first | exact hQ | (exfalso; omega))
                                skip)
                            · first | (exfalso; omega; done) | skip
                              all_goals (
                                refine x_aload_n (i := 112) (pc' := 233) rfl rfl rfl rfl ?_
                                refine x_iload_n (i := 113) (pc' := 234) rfl rfl rfl rfl ?_
                                refine x_iload (i := 114) (pc' := 236) rfl rfl rfl ?_
                                refine x_iload (i := 115) (pc' := 238) rfl rfl rfl ?_
                                refine m_callV (i := 116) (pc' := 241) (av := [_, _, _]) (rest := []) rfl rfl (by decide) lX12_177 (sh76 G) rfl rfl rfl rfl rfl (Nat.le_of_ble_eq_true rfl) (Nat.le_refl _) (Nat.le_refl _) (s_X12_says hc (csy_0 z1 hc) ?_)
                                dsimp only [psh]
                                refine x_pop (i := 117) (pc' := 242) rfl rfl rfl ?_
                                refine x_iload (i := 118) (pc' := 244) rfl rfl rfl ?_
                                exact m_zreturn (i := 119) rfl rfl (by omega) (by first | exact hQ | (exfalso; omega))
                                skip)
                            skip)
                        · first | (exfalso; omega; done) | skip
                          all_goals (
                            refine x_iconst (i := 106) (pc' := 221) rfl rfl ?_
                            refine x_goto (i := 107) (pc' := 225) rfl (by decide) ?_
                            refine x_istore (L' := [some _, some _, some _, some _, some _, some _, some _, some _, some _]) (i := 109) (pc' := 227) rfl rfl rfl (by decide) rfl ?_
                            refine x_iload (i := 110) (pc' := 229) rfl rfl rfl ?_
                            refine x_ifeq (i := 111) (pc' := 232) (tgt := 242) rfl rfl (by decide) ⟨by omega, by omega⟩ (fun c21 => ?_) (fun c21 => ?_)
                            · first | (exfalso; omega; done) | skip
                              all_goals (
                                refine x_iload (i := 118) (pc' := 244) rfl rfl rfl ?_
                                exact m_zreturn (i := 119) rfl rfl (by omega) (by first | exact hQ | (exfalso; omega))
                                skip)
                            · first | (exfalso; omega; done) | skip
                              all_goals (
                                refine x_aload_n (i := 112) (pc' := 233) rfl rfl rfl rfl ?_
                                refine x_iload_n (i := 113) (pc' := 234) rfl rfl rfl rfl ?_
                                refine x_iload (i := 114) (pc' := 236) rfl rfl rfl ?_
                                refine x_iload (i := 115) (pc' := 238) rfl rfl rfl ?_
                                refine m_callV (i := 116) (pc' := 241) (av := [_, _, _]) (rest := []) rfl rfl (by decide) lX12_177 (sh76 G) rfl rfl rfl rfl rfl (Nat.le_of_ble_eq_true rfl) (Nat.le_refl _) (Nat.le_refl _) (s_X12_says hc (csy_0 z1 hc) ?_)
                                dsimp only [psh]
                                refine x_pop (i := 117) (pc' := 242) rfl rfl rfl ?_
                                refine x_iload (i := 118) (pc' := 244) rfl rfl rfl ?_
                                exact m_zreturn (i := 119) rfl rfl (by omega) (by first | exact hQ | (exfalso; omega))
                                skip)
                            skip)
                        skip)
                    skip)
                · first | (exfalso; omega; done) | skip
                  all_goals (
                    refine x_iload (i := 88) (pc' := 187) rfl rfl rfl ?_
                    refine x_goto (i := 89) (pc' := 206) rfl (by decide) ?_
                    refine x_istore (L' := [some _, some _, some _, some _, some _, some _, none, some _, some _]) (i := 99) (pc' := 208) rfl rfl rfl (by decide) rfl ?_
                    refine x_aload_n (i := 100) (pc' := 209) rfl rfl rfl rfl ?_
                    refine x_iload_n (i := 101) (pc' := 210) rfl rfl rfl rfl ?_
                    refine x_iload (i := 102) (pc' := 212) rfl rfl rfl ?_
                    refine x_iload (i := 103) (pc' := 214) rfl rfl rfl ?_
                    refine m_callV (i := 104) (pc' := 217) (av := [_, _, _]) (rest := []) rfl rfl (by decide) lX12_174 (sh76 G) rfl rfl rfl rfl rfl (Nat.le_of_ble_eq_true rfl) (Nat.le_refl _) (Nat.le_refl _) (s_X12_canSay hn hc r0 d1 d2 ?_)
                    dsimp only [psh]
                    refine x_ifne (i := 105) (pc' := 220) (tgt := 224) rfl rfl (by decide) ⟨by omega, by omega⟩ (fun c22 => ?_) (fun c22 => ?_)
                    · first | (exfalso; omega; done) | skip
                      all_goals (
                        refine x_iconst (i := 108) (pc' := 225) rfl rfl ?_
                        refine x_istore (L' := [some _, some _, some _, some _, some _, some _, some _, some _, some _]) (i := 109) (pc' := 227) rfl rfl rfl (by decide) rfl ?_
                        refine x_iload (i := 110) (pc' := 229) rfl rfl rfl ?_
                        refine x_ifeq (i := 111) (pc' := 232) (tgt := 242) rfl rfl (by decide) ⟨by omega, by omega⟩ (fun c23 => ?_) (fun c23 => ?_)
                        · first | (exfalso; omega; done) | skip
                          all_goals (
                            refine x_iload (i := 118) (pc' := 244) rfl rfl rfl ?_
                            exact m_zreturn (i := 119) rfl rfl (by omega) (by first | exact hQ | (exfalso; omega))
                            skip)
                        · first | (exfalso; omega; done) | skip
                          all_goals (
                            refine x_aload_n (i := 112) (pc' := 233) rfl rfl rfl rfl ?_
                            refine x_iload_n (i := 113) (pc' := 234) rfl rfl rfl rfl ?_
                            refine x_iload (i := 114) (pc' := 236) rfl rfl rfl ?_
                            refine x_iload (i := 115) (pc' := 238) rfl rfl rfl ?_
                            refine m_callV (i := 116) (pc' := 241) (av := [_, _, _]) (rest := []) rfl rfl (by decide) lX12_177 (sh76 G) rfl rfl rfl rfl rfl (Nat.le_of_ble_eq_true rfl) (Nat.le_refl _) (Nat.le_refl _) (s_X12_says hc (csy_0 z1 hc) ?_)
                            dsimp only [psh]
                            refine x_pop (i := 117) (pc' := 242) rfl rfl rfl ?_
                            refine x_iload (i := 118) (pc' := 244) rfl rfl rfl ?_
                            exact m_zreturn (i := 119) rfl rfl (by omega) (by first | exact hQ | (exfalso; omega))
                            skip)
                        skip)
                    · first | (exfalso; omega; done) | skip
                      all_goals (
                        refine x_iconst (i := 106) (pc' := 221) rfl rfl ?_
                        refine x_goto (i := 107) (pc' := 225) rfl (by decide) ?_
                        refine x_istore (L' := [some _, some _, some _, some _, some _, some _, some _, some _, some _]) (i := 109) (pc' := 227) rfl rfl rfl (by decide) rfl ?_
                        refine x_iload (i := 110) (pc' := 229) rfl rfl rfl ?_
                        refine x_ifeq (i := 111) (pc' := 232) (tgt := 242) rfl rfl (by decide) ⟨by omega, by omega⟩ (fun c24 => ?_) (fun c24 => ?_)
                        · first | (exfalso; omega; done) | skip
                          all_goals (
                            refine x_iload (i := 118) (pc' := 244) rfl rfl rfl ?_
                            exact m_zreturn (i := 119) rfl rfl (by omega) (by first | exact hQ | (exfalso; omega))
                            skip)
                        · first | (exfalso; omega; done) | skip
                          all_goals (
                            refine x_aload_n (i := 112) (pc' := 233) rfl rfl rfl rfl ?_
                            refine x_iload_n (i := 113) (pc' := 234) rfl rfl rfl rfl ?_
                            refine x_iload (i := 114) (pc' := 236) rfl rfl rfl ?_
                            refine x_iload (i := 115) (pc' := 238) rfl rfl rfl ?_
                            refine m_callV (i := 116) (pc' := 241) (av := [_, _, _]) (rest := []) rfl rfl (by decide) lX12_177 (sh76 G) rfl rfl rfl rfl rfl (Nat.le_of_ble_eq_true rfl) (Nat.le_refl _) (Nat.le_refl _) (s_X12_says hc (csy_0 z1 hc) ?_)
                            dsimp only [psh]
                            refine x_pop (i := 117) (pc' := 242) rfl rfl rfl ?_
                            refine x_iload (i := 118) (pc' := 244) rfl rfl rfl ?_
                            exact m_zreturn (i := 119) rfl rfl (by omega) (by first | exact hQ | (exfalso; omega))
                            skip)
                        skip)
                    skip)
                skip)
            skip)
        · first | (exfalso; omega; done) | skip
          all_goals (
            refine x_look (i := 27) (off := 270) (tgt := 308) rfl (by decide) ⟨by omega, by omega⟩ (by simp [Op.lookupswitch.offset]; (repeat' split) <;> omega) (by decide) ?_
            exfalso; omega
            skip)
      · rw [if_neg z1, if_neg z1] at hQ
        unfold dwc at z1
        rw [ef] at d1
        rw [et] at d2
        rw [ef, et] at z1 c2
        refine x_bipush (i := 0) (pc' := 2) rfl rfl (by decide) ?_
        refine x_iload_n (i := 1) (pc' := 3) rfl rfl rfl rfl ?_
        refine x_imul (i := 2) (pc' := 4) rfl rfl ?_
        refine x_istore_n (L' := [some _, some _, some _, none, none, none, none, none, none]) (i := 3) (pc' := 5) rfl rfl rfl rfl (by decide) rfl ?_
        refine x_aload_n (i := 4) (pc' := 6) rfl rfl rfl rfl ?_
        refine m_getf (i := 5) (pc' := 9) rfl rfl flX12_31 (sh76 G) rfl rfl ?_
        refine x_iload_n (i := 6) (pc' := 10) rfl rfl rfl rfl ?_
        refine m_iald (i := 7) (pc' := 11) rfl rfl (sh84 G) (by decide) ⟨by omega, by omega⟩ ?_
        refine x_istore_n (L' := [some _, some _, some _, some _, none, none, none, none, none]) (i := 8) (pc' := 12) rfl rfl rfl rfl (by decide) rfl ?_
        refine x_aload_n (i := 9) (pc' := 13) rfl rfl rfl rfl ?_
        refine m_getf (i := 10) (pc' := 16) rfl rfl flX12_31 (sh76 G) rfl rfl ?_
        refine x_iload_n (i := 11) (pc' := 17) rfl rfl rfl rfl ?_
        refine x_iconst (i := 12) (pc' := 18) rfl rfl ?_
        refine x_iadd (i := 13) (pc' := 19) rfl rfl ?_
        refine m_iald (i := 14) (pc' := 20) rfl rfl (sh84 G) (by decide) ⟨by omega, by omega⟩ ?_
        refine x_istore (L' := [some _, some _, some _, some _, some _, none, none, none, none]) (i := 15) (pc' := 22) rfl rfl rfl (by decide) rfl ?_
        refine x_aload_n (i := 16) (pc' := 23) rfl rfl rfl rfl ?_
        refine m_getf (i := 17) (pc' := 26) rfl rfl flX12_31 (sh76 G) rfl rfl ?_
        refine x_iload_n (i := 18) (pc' := 27) rfl rfl rfl rfl ?_
        refine x_iconst (i := 19) (pc' := 28) rfl rfl ?_
        refine x_iadd (i := 20) (pc' := 29) rfl rfl ?_
        refine m_iald (i := 21) (pc' := 30) rfl rfl (sh84 G) (by decide) ⟨by omega, by omega⟩ ?_
        refine x_istore (L' := [some _, some _, some _, some _, some _, some _, none, none, none]) (i := 22) (pc' := 32) rfl rfl rfl (by decide) rfl ?_
        refine x_aload_n (i := 23) (pc' := 33) rfl rfl rfl rfl ?_
        refine m_getf (i := 24) (pc' := 36) rfl rfl flX12_25 (sh76 G) rfl rfl ?_
        refine x_iload_n (i := 25) (pc' := 37) rfl rfl rfl rfl ?_
        refine m_iald (i := 26) (pc' := 38) rfl rfl (sh82 G) (by decide) ⟨by omega, by omega⟩ ?_
        rcases (by omega : m 82 k = 100 ∨ m 82 k = 103 ∨ m 82 k = 108 ∨ m 82 k = 115 ∨ m 82 k = 119 ∨ (¬ m 82 k = 100 ∧ ¬ m 82 k = 103 ∧ ¬ m 82 k = 108 ∧ ¬ m 82 k = 115 ∧ ¬ m 82 k = 119)) with c1 | c1 | c1 | c1 | c1 | c1
        · first | (exfalso; omega; done) | skip
          all_goals (
            refine x_look (i := 27) (off := 241) (tgt := 279) rfl (by decide) ⟨by omega, by omega⟩ (by rw [c1]; rfl) (by decide) ?_
            exfalso; omega
            skip)
        · first | (exfalso; omega; done) | skip
          all_goals (
            refine x_look (i := 27) (off := 207) (tgt := 245) rfl (by decide) ⟨by omega, by omega⟩ (by rw [c1]; rfl) (by decide) ?_
            exfalso; omega
            skip)
        · first | (exfalso; omega; done) | skip
          all_goals (
            refine x_look (i := 27) (off := 235) (tgt := 273) rfl (by decide) ⟨by omega, by omega⟩ (by rw [c1]; rfl) (by decide) ?_
            exfalso; omega
            skip)
        · first | (exfalso; omega; done) | skip
          all_goals (
            refine x_look (i := 27) (off := 50) (tgt := 88) rfl (by decide) ⟨by omega, by omega⟩ (by rw [c1]; rfl) (by decide) ?_
            exfalso; omega
            skip)
        · first | (exfalso; omega; done) | skip
          all_goals (
            refine x_look (i := 27) (off := 119) (tgt := 157) rfl (by decide) ⟨by omega, by omega⟩ (by rw [c1]; rfl) (by decide) ?_
            refine x_aload_n (i := 72) (pc' := 158) rfl rfl rfl rfl ?_
            refine m_getf (i := 73) (pc' := 161) rfl rfl flX12_28 (sh76 G) rfl rfl ?_
            refine x_iload_n (i := 74) (pc' := 162) rfl rfl rfl rfl ?_
            refine m_iald (i := 75) (pc' := 163) rfl rfl (sh83 G) (by decide) ⟨by omega, by omega⟩ ?_
            refine x_iconst (i := 76) (pc' := 164) rfl rfl ?_
            refine x_icmpne (i := 77) (pc' := 167) (tgt := 172) rfl rfl (by decide) ⟨by omega, by omega⟩ ⟨by omega, by omega⟩ (fun c2 => ?_) (fun c2 => ?_)
            · first | (exfalso; omega; done) | skip
              all_goals (
                refine x_iconst (i := 80) (pc' := 173) rfl rfl ?_
                refine x_istore (L' := [some _, some _, some _, some _, some _, some _, none, some _, none]) (i := 81) (pc' := 175) rfl rfl rfl (by decide) rfl ?_
                refine x_aload_n (i := 82) (pc' := 176) rfl rfl rfl rfl ?_
                refine m_getf (i := 83) (pc' := 179) rfl rfl flX12_28 (sh76 G) rfl rfl ?_
                refine x_iload_n (i := 84) (pc' := 180) rfl rfl rfl rfl ?_
                refine m_iald (i := 85) (pc' := 181) rfl rfl (sh83 G) (by decide) ⟨by omega, by omega⟩ ?_
                refine x_iconst (i := 86) (pc' := 182) rfl rfl ?_
                refine x_icmpne (i := 87) (pc' := 185) (tgt := 190) rfl rfl (by decide) ⟨by omega, by omega⟩ ⟨by omega, by omega⟩ (fun c3 => ?_) (fun c3 => ?_)
                · first | (exfalso; omega; done) | skip
                  all_goals (
                    refine x_aload_n (i := 90) (pc' := 191) rfl rfl rfl rfl ?_
                    refine m_getf (i := 91) (pc' := 194) rfl rfl flX12_28 (sh76 G) rfl rfl ?_
                    refine x_iload_n (i := 92) (pc' := 195) rfl rfl rfl rfl ?_
                    refine m_iald (i := 93) (pc' := 196) rfl rfl (sh83 G) (by decide) ⟨by omega, by omega⟩ ?_
                    refine x_iconst (i := 94) (pc' := 197) rfl rfl ?_
                    refine x_icmpne (i := 95) (pc' := 200) (tgt := 205) rfl rfl (by decide) ⟨by omega, by omega⟩ ⟨by omega, by omega⟩ (fun c4 => ?_) (fun c4 => ?_)
                    · first | (exfalso; omega; done) | skip
                      all_goals (
                        refine x_iconst (i := 98) (pc' := 206) rfl rfl ?_
                        refine x_istore (L' := [some _, some _, some _, some _, some _, some _, none, some _, some _]) (i := 99) (pc' := 208) rfl rfl rfl (by decide) rfl ?_
                        refine x_aload_n (i := 100) (pc' := 209) rfl rfl rfl rfl ?_
                        refine x_iload_n (i := 101) (pc' := 210) rfl rfl rfl rfl ?_
                        refine x_iload (i := 102) (pc' := 212) rfl rfl rfl ?_
                        refine x_iload (i := 103) (pc' := 214) rfl rfl rfl ?_
                        refine m_callV (i := 104) (pc' := 217) (av := [_, _, _]) (rest := []) rfl rfl (by decide) lX12_174 (sh76 G) rfl rfl rfl rfl rfl (Nat.le_of_ble_eq_true rfl) (Nat.le_refl _) (Nat.le_refl _) (s_X12_canSay hn hc r0 d1 d2 ?_)
                        dsimp only [psh]
                        refine x_ifne (i := 105) (pc' := 220) (tgt := 224) rfl rfl (by decide) ⟨by omega, by omega⟩ (fun c5 => ?_) (fun c5 => ?_)
                        · first | (exfalso; omega; done) | skip
                          all_goals (
                            refine x_iconst (i := 108) (pc' := 225) rfl rfl ?_
                            refine x_istore (L' := [some _, some _, some _, some _, some _, some _, some _, some _, some _]) (i := 109) (pc' := 227) rfl rfl rfl (by decide) rfl ?_
                            refine x_iload (i := 110) (pc' := 229) rfl rfl rfl ?_
                            refine x_ifeq (i := 111) (pc' := 232) (tgt := 242) rfl rfl (by decide) ⟨by omega, by omega⟩ (fun c6 => ?_) (fun c6 => ?_)
                            · first | (exfalso; omega; done) | skip
                              all_goals (
                                refine x_iload (i := 118) (pc' := 244) rfl rfl rfl ?_
                                exact m_zreturn (i := 119) rfl rfl (by omega) (by first | exact hQ | (exfalso; omega))
                                skip)
                            · first | (exfalso; omega; done) | skip
                              all_goals (
                                refine x_aload_n (i := 112) (pc' := 233) rfl rfl rfl rfl ?_
                                refine x_iload_n (i := 113) (pc' := 234) rfl rfl rfl rfl ?_
                                refine x_iload (i := 114) (pc' := 236) rfl rfl rfl ?_
                                refine x_iload (i := 115) (pc' := 238) rfl rfl rfl ?_
                                refine m_callV (i := 116) (pc' := 241) (av := [_, _, _]) (rest := []) rfl rfl (by decide) lX12_177 (sh76 G) rfl rfl rfl rfl rfl (Nat.le_of_ble_eq_true rfl) (Nat.le_refl _) (Nat.le_refl _) (s_X12_says hc (csy_0 z1 hc) ?_)
                                dsimp only [psh]
                                refine x_pop (i := 117) (pc' := 242) rfl rfl rfl ?_
                                refine x_iload (i := 118) (pc' := 244) rfl rfl rfl ?_
                                exact m_zreturn (i := 119) rfl rfl (by omega) (by first | exact hQ | (exfalso; omega))
                                skip)
                            skip)
                        · first | (exfalso; omega; done) | skip
                          all_goals (
                            refine x_iconst (i := 106) (pc' := 221) rfl rfl ?_
                            refine x_goto (i := 107) (pc' := 225) rfl (by decide) ?_
                            refine x_istore (L' := [some _, some _, some _, some _, some _, some _, some _, some _, some _]) (i := 109) (pc' := 227) rfl rfl rfl (by decide) rfl ?_
                            refine x_iload (i := 110) (pc' := 229) rfl rfl rfl ?_
                            refine x_ifeq (i := 111) (pc' := 232) (tgt := 242) rfl rfl (by decide) ⟨by omega, by omega⟩ (fun c7 => ?_) (fun c7 => ?_)
                            · first | (exfalso; omega; done) | skip
                              all_goals (
                                refine x_iload (i := 118) (pc' := 244) rfl rfl rfl ?_
                                exact m_zreturn (i := 119) rfl rfl (by omega) (by first | exact hQ | (exfalso; omega))
                                skip)
                            · first | (exfalso; omega; done) | skip
                              all_goals (
                                refine x_aload_n (i := 112) (pc' := 233) rfl rfl rfl rfl ?_
                                refine x_iload_n (i := 113) (pc' := 234) rfl rfl rfl rfl ?_
                                refine x_iload (i := 114) (pc' := 236) rfl rfl rfl ?_
                                refine x_iload (i := 115) (pc' := 238) rfl rfl rfl ?_
                                refine m_callV (i := 116) (pc' := 241) (av := [_, _, _]) (rest := []) rfl rfl (by decide) lX12_177 (sh76 G) rfl rfl rfl rfl rfl (Nat.le_of_ble_eq_true rfl) (Nat.le_refl _) (Nat.le_refl _) (s_X12_says hc (csy_0 z1 hc) ?_)
                                dsimp only [psh]
                                refine x_pop (i := 117) (pc' := 242) rfl rfl rfl ?_
                                refine x_iload (i := 118) (pc' := 244) rfl rfl rfl ?_
                                exact m_zreturn (i := 119) rfl rfl (by omega) (by first | exact hQ | (exfalso; omega))
                                skip)
                            skip)
                        skip)
                    · first | (exfalso; omega; done) | skip
                      all_goals (
                        refine x_iload (i := 96) (pc' := 202) rfl rfl rfl ?_
                        refine x_goto (i := 97) (pc' := 206) rfl (by decide) ?_
                        refine x_istore (L' := [some _, some _, some _, some _, some _, some _, none, some _, some _]) (i := 99) (pc' := 208) rfl rfl rfl (by decide) rfl ?_
                        refine x_aload_n (i := 100) (pc' := 209) rfl rfl rfl rfl ?_
                        refine x_iload_n (i := 101) (pc' := 210) rfl rfl rfl rfl ?_
                        refine x_iload (i := 102) (pc' := 212) rfl rfl rfl ?_
                        refine x_iload (i := 103) (pc' := 214) rfl rfl rfl ?_
                        refine m_callV (i := 104) (pc' := 217) (av := [_, _, _]) (rest := []) rfl rfl (by decide) lX12_174 (sh76 G) rfl rfl rfl rfl rfl (Nat.le_of_ble_eq_true rfl) (Nat.le_refl _) (Nat.le_refl _) (s_X12_canSay hn hc r0 d1 d2 ?_)
                        dsimp only [psh]
                        refine x_ifne (i := 105) (pc' := 220) (tgt := 224) rfl rfl (by decide) ⟨by omega, by omega⟩ (fun c8 => ?_) (fun c8 => ?_)
                        · first | (exfalso; omega; done) | skip
                          all_goals (
                            refine x_iconst (i := 108) (pc' := 225) rfl rfl ?_
                            refine x_istore (L' := [some _, some _, some _, some _, some _, some _, some _, some _, some _]) (i := 109) (pc' := 227) rfl rfl rfl (by decide) rfl ?_
                            refine x_iload (i := 110) (pc' := 229) rfl rfl rfl ?_
                            refine x_ifeq (i := 111) (pc' := 232) (tgt := 242) rfl rfl (by decide) ⟨by omega, by omega⟩ (fun c9 => ?_) (fun c9 => ?_)
                            · first | (exfalso; omega; done) | skip
                              all_goals (
                                refine x_iload (i := 118) (pc' := 244) rfl rfl rfl ?_
                                exact m_zreturn (i := 119) rfl rfl (by omega) (by first | exact hQ | (exfalso; omega))
                                skip)
                            · first | (exfalso; omega; done) | skip
                              all_goals (
                                refine x_aload_n (i := 112) (pc' := 233) rfl rfl rfl rfl ?_
                                refine x_iload_n (i := 113) (pc' := 234) rfl rfl rfl rfl ?_
                                refine x_iload (i := 114) (pc' := 236) rfl rfl rfl ?_
                                refine x_iload (i := 115) (pc' := 238) rfl rfl rfl ?_
                                refine m_callV (i := 116) (pc' := 241) (av := [_, _, _]) (rest := []) rfl rfl (by decide) lX12_177 (sh76 G) rfl rfl rfl rfl rfl (Nat.le_of_ble_eq_true rfl) (Nat.le_refl _) (Nat.le_refl _) (s_X12_says hc (csy_0 z1 hc) ?_)
                                dsimp only [psh]
                                refine x_pop (i := 117) (pc' := 242) rfl rfl rfl ?_
                                refine x_iload (i := 118) (pc' := 244) rfl rfl rfl ?_
                                exact m_zreturn (i := 119) rfl rfl (by omega) (by first | exact hQ | (exfalso; omega))
                                skip)
                            skip)
                        · first | (exfalso; omega; done) | skip
                          all_goals (
                            refine x_iconst (i := 106) (pc' := 221) rfl rfl ?_
                            refine x_goto (i := 107) (pc' := 225) rfl (by decide) ?_
                            refine x_istore (L' := [some _, some _, some _, some _, some _, some _, some _, some _, some _]) (i := 109) (pc' := 227) rfl rfl rfl (by decide) rfl ?_
                            refine x_iload (i := 110) (pc' := 229) rfl rfl rfl ?_
                            refine x_ifeq (i := 111) (pc' := 232) (tgt := 242) rfl rfl (by decide) ⟨by omega, by omega⟩ (fun c10 => ?_) (fun c10 => ?_)
                            · first | (exfalso; omega; done) | skip
                              all_goals (
                                refine x_iload (i := 118) (pc' := 244) rfl rfl rfl ?_
                                exact m_zreturn (i := 119) rfl rfl (by omega) (by first | exact hQ | (exfalso; omega))
                                skip)
                            · first | (exfalso; omega; done) | skip
                              all_goals (
                                refine x_aload_n (i := 112) (pc' := 233) rfl rfl rfl rfl ?_
                                refine x_iload_n (i := 113) (pc' := 234) rfl rfl rfl rfl ?_
                                refine x_iload (i := 114) (pc' := 236) rfl rfl rfl ?_
                                refine x_iload (i := 115) (pc' := 238) rfl rfl rfl ?_
                                refine m_callV (i := 116) (pc' := 241) (av := [_, _, _]) (rest := []) rfl rfl (by decide) lX12_177 (sh76 G) rfl rfl rfl rfl rfl (Nat.le_of_ble_eq_true rfl) (Nat.le_refl _) (Nat.le_refl _) (s_X12_says hc (csy_0 z1 hc) ?_)
                                dsimp only [psh]
                                refine x_pop (i := 117) (pc' := 242) rfl rfl rfl ?_
                                refine x_iload (i := 118) (pc' := 244) rfl rfl rfl ?_
                                exact m_zreturn (i := 119) rfl rfl (by omega) (by first | exact hQ | (exfalso; omega))
                                skip)
                            skip)
                        skip)
                    skip)
                · first | (exfalso; omega; done) | skip
                  all_goals (
                    refine x_iload (i := 88) (pc' := 187) rfl rfl rfl ?_
                    refine x_goto (i := 89) (pc' := 206) rfl (by decide) ?_
                    refine x_istore (L' := [some _, some _, some _, some _, some _, some _, none, some _, some _]) (i := 99) (pc' := 208) rfl rfl rfl (by decide) rfl ?_
                    refine x_aload_n (i := 100) (pc' := 209) rfl rfl rfl rfl ?_
                    refine x_iload_n (i := 101) (pc' := 210) rfl rfl rfl rfl ?_
                    refine x_iload (i := 102) (pc' := 212) rfl rfl rfl ?_
                    refine x_iload (i := 103) (pc' := 214) rfl rfl rfl ?_
                    refine m_callV (i := 104) (pc' := 217) (av := [_, _, _]) (rest := []) rfl rfl (by decide) lX12_174 (sh76 G) rfl rfl rfl rfl rfl (Nat.le_of_ble_eq_true rfl) (Nat.le_refl _) (Nat.le_refl _) (s_X12_canSay hn hc r0 d1 d2 ?_)
                    dsimp only [psh]
                    refine x_ifne (i := 105) (pc' := 220) (tgt := 224) rfl rfl (by decide) ⟨by omega, by omega⟩ (fun c11 => ?_) (fun c11 => ?_)
                    · first | (exfalso; omega; done) | skip
                      all_goals (
                        refine x_iconst (i := 108) (pc' := 225) rfl rfl ?_
                        refine x_istore (L' := [some _, some _, some _, some _, some _, some _, some _, some _, some _]) (i := 109) (pc' := 227) rfl rfl rfl (by decide) rfl ?_
                        refine x_iload (i := 110) (pc' := 229) rfl rfl rfl ?_
                        refine x_ifeq (i := 111) (pc' := 232) (tgt := 242) rfl rfl (by decide) ⟨by omega, by omega⟩ (fun c12 => ?_) (fun c12 => ?_)
                        · first | (exfalso; omega; done) | skip
                          all_goals (
                            refine x_iload (i := 118) (pc' := 244) rfl rfl rfl ?_
                            exact m_zreturn (i := 119) rfl rfl (by omega) (by first | exact hQ | (exfalso; omega))
                            skip)
                        · first | (exfalso; omega; done) | skip
                          all_goals (
                            refine x_aload_n (i := 112) (pc' := 233) rfl rfl rfl rfl ?_
                            refine x_iload_n (i := 113) (pc' := 234) rfl rfl rfl rfl ?_
                            refine x_iload (i := 114) (pc' := 236) rfl rfl rfl ?_
                            refine x_iload (i := 115) (pc' := 238) rfl rfl rfl ?_
                            refine m_callV (i := 116) (pc' := 241) (av := [_, _, _]) (rest := []) rfl rfl (by decide) lX12_177 (sh76 G) rfl rfl rfl rfl rfl (Nat.le_of_ble_eq_true rfl) (Nat.le_refl _) (Nat.le_refl _) (s_X12_says hc (csy_0 z1 hc) ?_)
                            dsimp only [psh]
                            refine x_pop (i := 117) (pc' := 242) rfl rfl rfl ?_
                            refine x_iload (i := 118) (pc' := 244) rfl rfl rfl ?_
                            exact m_zreturn (i := 119) rfl rfl (by omega) (by first | exact hQ | (exfalso; omega))
                            skip)
                        skip)
                    · first | (exfalso; omega; done) | skip
                      all_goals (
                        refine x_iconst (i := 106) (pc' := 221) rfl rfl ?_
                        refine x_goto (i := 107) (pc' := 225) rfl (by decide) ?_
                        refine x_istore (L' := [some _, some _, some _, some _, some _, some _, some _, some _, some _]) (i := 109) (pc' := 227) rfl rfl rfl (by decide) rfl ?_
                        refine x_iload (i := 110) (pc' := 229) rfl rfl rfl ?_
                        refine x_ifeq (i := 111) (pc' := 232) (tgt := 242) rfl rfl (by decide) ⟨by omega, by omega⟩ (fun c13 => ?_) (fun c13 => ?_)
                        · first | (exfalso; omega; done) | skip
                          all_goals (
                            refine x_iload (i := 118) (pc' := 244) rfl rfl rfl ?_
                            exact m_zreturn (i := 119) rfl rfl (by omega) (by first | exact hQ | (exfalso; omega))
                            skip)
                        · first | (exfalso; omega; done) | skip
                          all_goals (
                            refine x_aload_n (i := 112) (pc' := 233) rfl rfl rfl rfl ?_
                            refine x_iload_n (i := 113) (pc' := 234) rfl rfl rfl rfl ?_
                            refine x_iload (i := 114) (pc' := 236) rfl rfl rfl ?_
                            refine x_iload (i := 115) (pc' := 238) rfl rfl rfl ?_
                            refine m_callV (i := 116) (pc' := 241) (av := [_, _, _]) (rest := []) rfl rfl (by decide) lX12_177 (sh76 G) rfl rfl rfl rfl rfl (Nat.le_of_ble_eq_true rfl) (Nat.le_refl _) (Nat.le_refl _) (s_X12_says hc (csy_0 z1 hc) ?_)
                            dsimp only [psh]
                            refine x_pop (i := 117) (pc' := 242) rfl rfl rfl ?_
                            refine x_iload (i := 118) (pc' := 244) rfl rfl rfl ?_
                            exact m_zreturn (i := 119) rfl rfl (by omega) (by first | exact hQ | (exfalso; omega))
                            skip)
                        skip)
                    skip)
                skip)
            · first | (exfalso; omega; done) | skip
              all_goals (
                refine x_iload (i := 78) (pc' := 169) rfl rfl rfl ?_
                refine x_goto (i := 79) (pc' := 173) rfl (by decide) ?_
                refine x_istore (L' := [some _, some _, some _, some _, some _, some _, none, some _, none]) (i := 81) (pc' := 175) rfl rfl rfl (by decide) rfl ?_
                refine x_aload_n (i := 82) (pc' := 176) rfl rfl rfl rfl ?_
                refine m_getf (i := 83) (pc' := 179) rfl rfl flX12_28 (sh76 G) rfl rfl ?_
                refine x_iload_n (i := 84) (pc' := 180) rfl rfl rfl rfl ?_
                refine m_iald (i := 85) (pc' := 181) rfl rfl (sh83 G) (by decide) ⟨by omega, by omega⟩ ?_
                refine x_iconst (i := 86) (pc' := 182) rfl rfl ?_
                refine x_icmpne (i := 87) (pc' := 185) (tgt := 190) rfl rfl (by decide) ⟨by omega, by omega⟩ ⟨by omega, by omega⟩ (fun c14 => ?_) (fun c14 => ?_)
                · first | (exfalso; omega; done) | skip
                  all_goals (
                    refine x_aload_n (i := 90) (pc' := 191) rfl rfl rfl rfl ?_
                    refine m_getf (i := 91) (pc' := 194) rfl rfl flX12_28 (sh76 G) rfl rfl ?_
                    refine x_iload_n (i := 92) (pc' := 195) rfl rfl rfl rfl ?_
                    refine m_iald (i := 93) (pc' := 196) rfl rfl (sh83 G) (by decide) ⟨by omega, by omega⟩ ?_
                    refine x_iconst (i := 94) (pc' := 197) rfl rfl ?_
                    refine x_icmpne (i := 95) (pc' := 200) (tgt := 205) rfl rfl (by decide) ⟨by omega, by omega⟩ ⟨by omega, by omega⟩ (fun c15 => ?_) (fun c15 => ?_)
                    · first | (exfalso; omega; done) | skip
                      all_goals (
                        refine x_iconst (i := 98) (pc' := 206) rfl rfl ?_
                        refine x_istore (L' := [some _, some _, some _, some _, some _, some _, none, some _, some _]) (i := 99) (pc' := 208) rfl rfl rfl (by decide) rfl ?_
                        refine x_aload_n (i := 100) (pc' := 209) rfl rfl rfl rfl ?_
                        refine x_iload_n (i := 101) (pc' := 210) rfl rfl rfl rfl ?_
                        refine x_iload (i := 102) (pc' := 212) rfl rfl rfl ?_
                        refine x_iload (i := 103) (pc' := 214) rfl rfl rfl ?_
                        refine m_callV (i := 104) (pc' := 217) (av := [_, _, _]) (rest := []) rfl rfl (by decide) lX12_174 (sh76 G) rfl rfl rfl rfl rfl (Nat.le_of_ble_eq_true rfl) (Nat.le_refl _) (Nat.le_refl _) (s_X12_canSay hn hc r0 d1 d2 ?_)
                        dsimp only [psh]
                        refine x_ifne (i := 105) (pc' := 220) (tgt := 224) rfl rfl (by decide) ⟨by omega, by omega⟩ (fun c16 => ?_) (fun c16 => ?_)
                        · first | (exfalso; omega; done) | skip
                          all_goals (
                            refine x_iconst (i := 108) (pc' := 225) rfl rfl ?_
                            refine x_istore (L' := [some _, some _, some _, some _, some _, some _, some _, some _, some _]) (i := 109) (pc' := 227) rfl rfl rfl (by decide) rfl ?_
                            refine x_iload (i := 110) (pc' := 229) rfl rfl rfl ?_
                            refine x_ifeq (i := 111) (pc' := 232) (tgt := 242) rfl rfl (by decide) ⟨by omega, by omega⟩ (fun c17 => ?_) (fun c17 => ?_)
                            · first | (exfalso; omega; done) | skip
                              all_goals (
                                refine x_iload (i := 118) (pc' := 244) rfl rfl rfl ?_
                                exact m_zreturn (i := 119) rfl rfl (by omega) (by first | exact hQ | (exfalso; omega))
                                skip)
                            · first | (exfalso; omega; done) | skip
                              all_goals (
                                refine x_aload_n (i := 112) (pc' := 233) rfl rfl rfl rfl ?_
                                refine x_iload_n (i := 113) (pc' := 234) rfl rfl rfl rfl ?_
                                refine x_iload (i := 114) (pc' := 236) rfl rfl rfl ?_
                                refine x_iload (i := 115) (pc' := 238) rfl rfl rfl ?_
                                refine m_callV (i := 116) (pc' := 241) (av := [_, _, _]) (rest := []) rfl rfl (by decide) lX12_177 (sh76 G) rfl rfl rfl rfl rfl (Nat.le_of_ble_eq_true rfl) (Nat.le_refl _) (Nat.le_refl _) (s_X12_says hc (csy_0 z1 hc) ?_)
                                dsimp only [psh]
                                refine x_pop (i := 117) (pc' := 242) rfl rfl rfl ?_
                                refine x_iload (i := 118) (pc' := 244) rfl rfl rfl ?_
                                exact m_zreturn (i := 119) rfl rfl (by omega) (by first | exact hQ | (exfalso; omega))
                                skip)
                            skip)
                        · first | (exfalso; omega; done) | skip
                          all_goals (
                            refine x_iconst (i := 106) (pc' := 221) rfl rfl ?_
                            refine x_goto (i := 107) (pc' := 225) rfl (by decide) ?_
                            refine x_istore (L' := [some _, some _, some _, some _, some _, some _, some _, some _, some _]) (i := 109) (pc' := 227) rfl rfl rfl (by decide) rfl ?_
                            refine x_iload (i := 110) (pc' := 229) rfl rfl rfl ?_
                            refine x_ifeq (i := 111) (pc' := 232) (tgt := 242) rfl rfl (by decide) ⟨by omega, by omega⟩ (fun c18 => ?_) (fun c18 => ?_)
                            · first | (exfalso; omega; done) | skip
                              all_goals (
                                refine x_iload (i := 118) (pc' := 244) rfl rfl rfl ?_
                                exact m_zreturn (i := 119) rfl rfl (by omega) (by first | exact hQ | (exfalso; omega))
                                skip)
                            · first | (exfalso; omega; done) | skip
                              all_goals (
                                refine x_aload_n (i := 112) (pc' := 233) rfl rfl rfl rfl ?_
                                refine x_iload_n (i := 113) (pc' := 234) rfl rfl rfl rfl ?_
                                refine x_iload (i := 114) (pc' := 236) rfl rfl rfl ?_
                                refine x_iload (i := 115) (pc' := 238) rfl rfl rfl ?_
                                refine m_callV (i := 116) (pc' := 241) (av := [_, _, _]) (rest := []) rfl rfl (by decide) lX12_177 (sh76 G) rfl rfl rfl rfl rfl (Nat.le_of_ble_eq_true rfl) (Nat.le_refl _) (Nat.le_refl _) (s_X12_says hc (csy_0 z1 hc) ?_)
                                dsimp only [psh]
                                refine x_pop (i := 117) (pc' := 242) rfl rfl rfl ?_
                                refine x_iload (i := 118) (pc' := 244) rfl rfl rfl ?_
                                exact m_zreturn (i := 119) rfl rfl (by omega) (by first | exact hQ | (exfalso; omega))
                                skip)
                            skip)
                        skip)
                    · first | (exfalso; omega; done) | skip
                      all_goals (
                        refine x_iload (i := 96) (pc' := 202) rfl rfl rfl ?_
                        refine x_goto (i := 97) (pc' := 206) rfl (by decide) ?_
                        refine x_istore (L' := [some _, some _, some _, some _, some _, some _, none, some _, some _]) (i := 99) (pc' := 208) rfl rfl rfl (by decide) rfl ?_
                        refine x_aload_n (i := 100) (pc' := 209) rfl rfl rfl rfl ?_
                        refine x_iload_n (i := 101) (pc' := 210) rfl rfl rfl rfl ?_
                        refine x_iload (i := 102) (pc' := 212) rfl rfl rfl ?_
                        refine x_iload (i := 103) (pc' := 214) rfl rfl rfl ?_
                        refine m_callV (i := 104) (pc' := 217) (av := [_, _, _]) (rest := []) rfl rfl (by decide) lX12_174 (sh76 G) rfl rfl rfl rfl rfl (Nat.le_of_ble_eq_true rfl) (Nat.le_refl _) (Nat.le_refl _) (s_X12_canSay hn hc r0 d1 d2 ?_)
                        dsimp only [psh]
                        refine x_ifne (i := 105) (pc' := 220) (tgt := 224) rfl rfl (by decide) ⟨by omega, by omega⟩ (fun c19 => ?_) (fun c19 => ?_)
                        · first | (exfalso; omega; done) | skip
                          all_goals (
                            refine x_iconst (i := 108) (pc' := 225) rfl rfl ?_
                            refine x_istore (L' := [some _, some _, some _, some _, some _, some _, some _, some _, some _]) (i := 109) (pc' := 227) rfl rfl rfl (by decide) rfl ?_
                            refine x_iload (i := 110) (pc' := 229) rfl rfl rfl ?_
                            refine x_ifeq (i := 111) (pc' := 232) (tgt := 242) rfl rfl (by decide) ⟨by omega, by omega⟩ (fun c20 => ?_) (fun c20 => ?_)
                            · first | (exfalso; omega; done) | skip
                              all_goals (
                                refine x_iload (i := 118) (pc' := 244) rfl rfl rfl ?_
                                exact m_zreturn (i := 119) rfl rfl (by omega) (by first | exact hQ | (exfalso; omega))
                                skip)
                            · first | (exfalso; omega; done) | skip
                              all_goals (
                                refine x_aload_n (i := 112) (pc' := 233) rfl rfl rfl rfl ?_
                                refine x_iload_n (i := 113) (pc' := 234) rfl rfl rfl rfl ?_
                                refine x_iload (i := 114) (pc' := 236) rfl rfl rfl ?_
                                refine x_iload (i := 115) (pc' := 238) rfl rfl rfl ?_
                                refine m_callV (i := 116) (pc' := 241) (av := [_, _, _]) (rest := []) rfl rfl (by decide) lX12_177 (sh76 G) rfl rfl rfl rfl rfl (Nat.le_of_ble_eq_true rfl) (Nat.le_refl _) (Nat.le_refl _) (s_X12_says hc (csy_0 z1 hc) ?_)
                                dsimp only [psh]
                                refine x_pop (i := 117) (pc' := 242) rfl rfl rfl ?_
                                refine x_iload (i := 118) (pc' := 244) rfl rfl rfl ?_
                                exact m_zreturn (i := 119) rfl rfl (by omega) (by first | exact hQ | (exfalso; omega))
                                skip)
                            skip)
                        · first | (exfalso; omega; done) | skip
                          all_goals (
                            refine x_iconst (i := 106) (pc' := 221) rfl rfl ?_
                            refine x_goto (i := 107) (pc' := 225) rfl (by decide) ?_
                            refine x_istore (L' := [some _, some _, some _, some _, some _, some _, some _, some _, some _]) (i := 109) (pc' := 227) rfl rfl rfl (by decide) rfl ?_
                            refine x_iload (i := 110) (pc' := 229) rfl rfl rfl ?_
                            refine x_ifeq (i := 111) (pc' := 232) (tgt := 242) rfl rfl (by decide) ⟨by omega, by omega⟩ (fun c21 => ?_) (fun c21 => ?_)
                            · first | (exfalso; omega; done) | skip
                              all_goals (
                                refine x_iload (i := 118) (pc' := 244) rfl rfl rfl ?_
                                exact m_zreturn (i := 119) rfl rfl (by omega) (by first | exact hQ | (exfalso; omega))
                                skip)
                            · first | (exfalso; omega; done) | skip
                              all_goals (
                                refine x_aload_n (i := 112) (pc' := 233) rfl rfl rfl rfl ?_
                                refine x_iload_n (i := 113) (pc' := 234) rfl rfl rfl rfl ?_
                                refine x_iload (i := 114) (pc' := 236) rfl rfl rfl ?_
                                refine x_iload (i := 115) (pc' := 238) rfl rfl rfl ?_
                                refine m_callV (i := 116) (pc' := 241) (av := [_, _, _]) (rest := []) rfl rfl (by decide) lX12_177 (sh76 G) rfl rfl rfl rfl rfl (Nat.le_of_ble_eq_true rfl) (Nat.le_refl _) (Nat.le_refl _) (s_X12_says hc (csy_0 z1 hc) ?_)
                                dsimp only [psh]
                                refine x_pop (i := 117) (pc' := 242) rfl rfl rfl ?_
                                refine x_iload (i := 118) (pc' := 244) rfl rfl rfl ?_
                                exact m_zreturn (i := 119) rfl rfl (by omega) (by first | exact hQ | (exfalso; omega))
                                skip)
                            skip)
                        skip)
                    skip)
                · first | (exfalso; omega; done) | skip
                  all_goals (
                    refine x_iload (i := 88) (pc' := 187) rfl rfl rfl ?_
                    refine x_goto (i := 89) (pc' := 206) rfl (by decide) ?_
                    refine x_istore (L' := [some _, some _, some _, some _, some _, some _, none, some _, some _]) (i := 99) (pc' := 208) rfl rfl rfl (by decide) rfl ?_
                    refine x_aload_n (i := 100) (pc' := 209) rfl rfl rfl rfl ?_
                    refine x_iload_n (i := 101) (pc' := 210) rfl rfl rfl rfl ?_
                    refine x_iload (i := 102) (pc' := 212) rfl rfl rfl ?_
                    refine x_iload (i := 103) (pc' := 214) rfl rfl rfl ?_
                    refine m_callV (i := 104) (pc' := 217) (av := [_, _, _]) (rest := []) rfl rfl (by decide) lX12_174 (sh76 G) rfl rfl rfl rfl rfl (Nat.le_of_ble_eq_true rfl) (Nat.le_refl _) (Nat.le_refl _) (s_X12_canSay hn hc r0 d1 d2 ?_)
                    dsimp only [psh]
                    refine x_ifne (i := 105) (pc' := 220) (tgt := 224) rfl rfl (by decide) ⟨by omega, by omega⟩ (fun c22 => ?_) (fun c22 => ?_)
                    · first | (exfalso; omega; done) | skip
                      all_goals (
                        refine x_iconst (i := 108) (pc' := 225) rfl rfl ?_
                        refine x_istore (L' := [some _, some _, some _, some _, some _, some _, some _, some _, some _]) (i := 109) (pc' := 227) rfl rfl rfl (by decide) rfl ?_
                        refine x_iload (i := 110) (pc' := 229) rfl rfl rfl ?_
                        refine x_ifeq (i := 111) (pc' := 232) (tgt := 242) rfl rfl (by decide) ⟨by omega, by omega⟩ (fun c23 => ?_) (fun c23 => ?_)
                        · first | (exfalso; omega; done) | skip
                          all_goals (
                            refine x_iload (i := 118) (pc' := 244) rfl rfl rfl ?_
                            exact m_zreturn (i := 119) rfl rfl (by omega) (by first | exact hQ | (exfalso; omega))
                            skip)
                        · first | (exfalso; omega; done) | skip
                          all_goals (
                            refine x_aload_n (i := 112) (pc' := 233) rfl rfl rfl rfl ?_
                            refine x_iload_n (i := 113) (pc' := 234) rfl rfl rfl rfl ?_
                            refine x_iload (i := 114) (pc' := 236) rfl rfl rfl ?_
                            refine x_iload (i := 115) (pc' := 238) rfl rfl rfl ?_
                            refine m_callV (i := 116) (pc' := 241) (av := [_, _, _]) (rest := []) rfl rfl (by decide) lX12_177 (sh76 G) rfl rfl rfl rfl rfl (Nat.le_of_ble_eq_true rfl) (Nat.le_refl _) (Nat.le_refl _) (s_X12_says hc (csy_0 z1 hc) ?_)
                            dsimp only [psh]
                            refine x_pop (i := 117) (pc' := 242) rfl rfl rfl ?_
                            refine x_iload (i := 118) (pc' := 244) rfl rfl rfl ?_
                            exact m_zreturn (i := 119) rfl rfl (by omega) (by first | exact hQ | (exfalso; omega))
                            skip)
                        skip)
                    · first | (exfalso; omega; done) | skip
                      all_goals (
                        refine x_iconst (i := 106) (pc' := 221) rfl rfl ?_
                        refine x_goto (i := 107) (pc' := 225) rfl (by decide) ?_
                        refine x_istore (L' := [some _, some _, some _, some _, some _, some _, some _, some _, some _]) (i := 109) (pc' := 227) rfl rfl rfl (by decide) rfl ?_
                        refine x_iload (i := 110) (pc' := 229) rfl rfl rfl ?_
                        refine x_ifeq (i := 111) (pc' := 232) (tgt := 242) rfl rfl (by decide) ⟨by omega, by omega⟩ (fun c24 => ?_) (fun c24 => ?_)
                        · first | (exfalso; omega; done) | skip
                          all_goals (
                            refine x_iload (i := 118) (pc' := 244) rfl rfl rfl ?_
                            exact m_zreturn (i := 119) rfl rfl (by omega) (by first | exact hQ | (exfalso; omega))
                            skip)
                        · first | (exfalso; omega; done) | skip
                          all_goals (
                            refine x_aload_n (i := 112) (pc' := 233) rfl rfl rfl rfl ?_
                            refine x_iload_n (i := 113) (pc' := 234) rfl rfl rfl rfl ?_
                            refine x_iload (i := 114) (pc' := 236) rfl rfl rfl ?_
                            refine x_iload (i := 115) (pc' := 238) rfl rfl rfl ?_
                            refine m_callV (i := 116) (pc' := 241) (av := [_, _, _]) (rest := []) rfl rfl (by decide) lX12_177 (sh76 G) rfl rfl rfl rfl rfl (Nat.le_of_ble_eq_true rfl) (Nat.le_refl _) (Nat.le_refl _) (s_X12_says hc (csy_0 z1 hc) ?_)
                            dsimp only [psh]
                            refine x_pop (i := 117) (pc' := 242) rfl rfl rfl ?_
                            refine x_iload (i := 118) (pc' := 244) rfl rfl rfl ?_
                            exact m_zreturn (i := 119) rfl rfl (by omega) (by first | exact hQ | (exfalso; omega))
                            skip)
                        skip)
                    skip)
                skip)
            skip)
        · first | (exfalso; omega; done) | skip
          all_goals (
            refine x_look (i := 27) (off := 270) (tgt := 308) rfl (by decide) ⟨by omega, by omega⟩ (by simp [Op.lookupswitch.offset]; (repeat' split) <;> omega) (by decide) ?_
            exfalso; omega
            skip)
  rw [if_neg k2, if_neg k2] at hQ
  by_cases k3 : m 82 k = 103
  · rw [if_pos k3, if_pos k3] at hQ
    by_cases z1 : (0 ≤ m 84 (6 * k) ∧ m 84 (6 * k) ≤ 3) ∧ (0 ≤ m 84 (6 * k + 1) ∧ m 84 (6 * k + 1) ≤ 5)
    · rw [if_pos z1, if_pos z1] at hQ
      refine x_bipush (i := 0) (pc' := 2) rfl rfl (by decide) ?_
      refine x_iload_n (i := 1) (pc' := 3) rfl rfl rfl rfl ?_
      refine x_imul (i := 2) (pc' := 4) rfl rfl ?_
      refine x_istore_n (L' := [some _, some _, some _, none, none, none, none, none, none]) (i := 3) (pc' := 5) rfl rfl rfl rfl (by decide) rfl ?_
      refine x_aload_n (i := 4) (pc' := 6) rfl rfl rfl rfl ?_
      refine m_getf (i := 5) (pc' := 9) rfl rfl flX12_31 (sh76 G) rfl rfl ?_
      refine x_iload_n (i := 6) (pc' := 10) rfl rfl rfl rfl ?_
      refine m_iald (i := 7) (pc' := 11) rfl rfl (sh84 G) (by decide) ⟨by omega, by omega⟩ ?_
      refine x_istore_n (L' := [some _, some _, some _, some _, none, none, none, none, none]) (i := 8) (pc' := 12) rfl rfl rfl rfl (by decide) rfl ?_
      refine x_aload_n (i := 9) (pc' := 13) rfl rfl rfl rfl ?_
      refine m_getf (i := 10) (pc' := 16) rfl rfl flX12_31 (sh76 G) rfl rfl ?_
      refine x_iload_n (i := 11) (pc' := 17) rfl rfl rfl rfl ?_
      refine x_iconst (i := 12) (pc' := 18) rfl rfl ?_
      refine x_iadd (i := 13) (pc' := 19) rfl rfl ?_
      refine m_iald (i := 14) (pc' := 20) rfl rfl (sh84 G) (by decide) ⟨by omega, by omega⟩ ?_
      refine x_istore (L' := [some _, some _, some _, some _, some _, none, none, none, none]) (i := 15) (pc' := 22) rfl rfl rfl (by decide) rfl ?_
      refine x_aload_n (i := 16) (pc' := 23) rfl rfl rfl rfl ?_
      refine m_getf (i := 17) (pc' := 26) rfl rfl flX12_31 (sh76 G) rfl rfl ?_
      refine x_iload_n (i := 18) (pc' := 27) rfl rfl rfl rfl ?_
      refine x_iconst (i := 19) (pc' := 28) rfl rfl ?_
      refine x_iadd (i := 20) (pc' := 29) rfl rfl ?_
      refine m_iald (i := 21) (pc' := 30) rfl rfl (sh84 G) (by decide) ⟨by omega, by omega⟩ ?_
      refine x_istore (L' := [some _, some _, some _, some _, some _, some _, none, none, none]) (i := 22) (pc' := 32) rfl rfl rfl (by decide) rfl ?_
      refine x_aload_n (i := 23) (pc' := 33) rfl rfl rfl rfl ?_
      refine m_getf (i := 24) (pc' := 36) rfl rfl flX12_25 (sh76 G) rfl rfl ?_
      refine x_iload_n (i := 25) (pc' := 37) rfl rfl rfl rfl ?_
      refine m_iald (i := 26) (pc' := 38) rfl rfl (sh82 G) (by decide) ⟨by omega, by omega⟩ ?_
      rcases (by omega : m 82 k = 100 ∨ m 82 k = 103 ∨ m 82 k = 108 ∨ m 82 k = 115 ∨ m 82 k = 119 ∨ (¬ m 82 k = 100 ∧ ¬ m 82 k = 103 ∧ ¬ m 82 k = 108 ∧ ¬ m 82 k = 115 ∧ ¬ m 82 k = 119)) with c1 | c1 | c1 | c1 | c1 | c1
      · first | (exfalso; omega; done) | skip
        all_goals (
          refine x_look (i := 27) (off := 241) (tgt := 279) rfl (by decide) ⟨by omega, by omega⟩ (by rw [c1]; rfl) (by decide) ?_
          exfalso; omega
          skip)
      · first | (exfalso; omega; done) | skip
        all_goals (
          refine x_look (i := 27) (off := 207) (tgt := 245) rfl (by decide) ⟨by omega, by omega⟩ (by rw [c1]; rfl) (by decide) ?_
          refine x_iload_n (i := 120) (pc' := 246) rfl rfl rfl rfl ?_
          refine x_iload (i := 121) (pc' := 248) rfl rfl rfl ?_
          refine m_callS (i := 122) (pc' := 251) (av := [_, _]) (rest := []) rfl rfl (by decide) lX12_95 rfl rfl (Nat.le_of_ble_eq_true rfl) (Nat.le_refl _) (Nat.le_refl _) (s_X12_isWeight r0 r1 ?_)
          dsimp only [psh]
          rw [if_pos z1]
          refine x_istore (L' := [some _, some _, some _, some _, some _, some _, some _, none, none]) (i := 123) (pc' := 253) rfl rfl rfl (by decide) rfl ?_
          refine x_iload (i := 124) (pc' := 255) rfl rfl rfl ?_
          refine x_ifeq (i := 125) (pc' := 258) (tgt := 270) rfl rfl (by decide) ⟨by omega, by omega⟩ (fun c2 => ?_) (fun c2 => ?_)
          · first | (exfalso; omega; done) | skip
            all_goals (
              refine x_iload (i := 133) (pc' := 272) rfl rfl rfl ?_
              exact m_zreturn (i := 134) rfl rfl (by omega) (by first | exact hQ | (exfalso; omega))
              skip)
          · first | (exfalso; omega; done) | skip
            all_goals (
              refine x_aload_n (i := 126) (pc' := 259) rfl rfl rfl rfl ?_
              refine m_getf (i := 127) (pc' := 262) rfl rfl flX12_7 (sh76 G) rfl rfl ?_
              refine x_sipush (i := 128) (pc' := 265) rfl rfl (by decide) ?_
              refine x_iload_n (i := 129) (pc' := 266) rfl rfl rfl rfl ?_
              refine x_iadd (i := 130) (pc' := 267) rfl rfl ?_
              refine x_iload (i := 131) (pc' := 269) rfl rfl rfl ?_
              refine m_iast (i := 132) (pc' := 270) rfl rfl (sh77 G) (by decide) ⟨by omega, by omega⟩ ?_
              refine x_iload (i := 133) (pc' := 272) rfl rfl rfl ?_
              exact m_zreturn (i := 134) rfl rfl (by omega) (by first | exact hQ | (exfalso; omega))
              skip)
          skip)
      · first | (exfalso; omega; done) | skip
        all_goals (
          refine x_look (i := 27) (off := 235) (tgt := 273) rfl (by decide) ⟨by omega, by omega⟩ (by rw [c1]; rfl) (by decide) ?_
          exfalso; omega
          skip)
      · first | (exfalso; omega; done) | skip
        all_goals (
          refine x_look (i := 27) (off := 50) (tgt := 88) rfl (by decide) ⟨by omega, by omega⟩ (by rw [c1]; rfl) (by decide) ?_
          exfalso; omega
          skip)
      · first | (exfalso; omega; done) | skip
        all_goals (
          refine x_look (i := 27) (off := 119) (tgt := 157) rfl (by decide) ⟨by omega, by omega⟩ (by rw [c1]; rfl) (by decide) ?_
          exfalso; omega
          skip)
      · first | (exfalso; omega; done) | skip
        all_goals (
          refine x_look (i := 27) (off := 270) (tgt := 308) rfl (by decide) ⟨by omega, by omega⟩ (by simp [Op.lookupswitch.offset]; (repeat' split) <;> omega) (by decide) ?_
          exfalso; omega
          skip)
    · rw [if_neg z1, if_neg z1] at hQ
      refine x_bipush (i := 0) (pc' := 2) rfl rfl (by decide) ?_
      refine x_iload_n (i := 1) (pc' := 3) rfl rfl rfl rfl ?_
      refine x_imul (i := 2) (pc' := 4) rfl rfl ?_
      refine x_istore_n (L' := [some _, some _, some _, none, none, none, none, none, none]) (i := 3) (pc' := 5) rfl rfl rfl rfl (by decide) rfl ?_
      refine x_aload_n (i := 4) (pc' := 6) rfl rfl rfl rfl ?_
      refine m_getf (i := 5) (pc' := 9) rfl rfl flX12_31 (sh76 G) rfl rfl ?_
      refine x_iload_n (i := 6) (pc' := 10) rfl rfl rfl rfl ?_
      refine m_iald (i := 7) (pc' := 11) rfl rfl (sh84 G) (by decide) ⟨by omega, by omega⟩ ?_
      refine x_istore_n (L' := [some _, some _, some _, some _, none, none, none, none, none]) (i := 8) (pc' := 12) rfl rfl rfl rfl (by decide) rfl ?_
      refine x_aload_n (i := 9) (pc' := 13) rfl rfl rfl rfl ?_
      refine m_getf (i := 10) (pc' := 16) rfl rfl flX12_31 (sh76 G) rfl rfl ?_
      refine x_iload_n (i := 11) (pc' := 17) rfl rfl rfl rfl ?_
      refine x_iconst (i := 12) (pc' := 18) rfl rfl ?_
      refine x_iadd (i := 13) (pc' := 19) rfl rfl ?_
      refine m_iald (i := 14) (pc' := 20) rfl rfl (sh84 G) (by decide) ⟨by omega, by omega⟩ ?_
      refine x_istore (L' := [some _, some _, some _, some _, some _, none, none, none, none]) (i := 15) (pc' := 22) rfl rfl rfl (by decide) rfl ?_
      refine x_aload_n (i := 16) (pc' := 23) rfl rfl rfl rfl ?_
      refine m_getf (i := 17) (pc' := 26) rfl rfl flX12_31 (sh76 G) rfl rfl ?_
      refine x_iload_n (i := 18) (pc' := 27) rfl rfl rfl rfl ?_
      refine x_iconst (i := 19) (pc' := 28) rfl rfl ?_
      refine x_iadd (i := 20) (pc' := 29) rfl rfl ?_
      refine m_iald (i := 21) (pc' := 30) rfl rfl (sh84 G) (by decide) ⟨by omega, by omega⟩ ?_
      refine x_istore (L' := [some _, some _, some _, some _, some _, some _, none, none, none]) (i := 22) (pc' := 32) rfl rfl rfl (by decide) rfl ?_
      refine x_aload_n (i := 23) (pc' := 33) rfl rfl rfl rfl ?_
      refine m_getf (i := 24) (pc' := 36) rfl rfl flX12_25 (sh76 G) rfl rfl ?_
      refine x_iload_n (i := 25) (pc' := 37) rfl rfl rfl rfl ?_
      refine m_iald (i := 26) (pc' := 38) rfl rfl (sh82 G) (by decide) ⟨by omega, by omega⟩ ?_
      rcases (by omega : m 82 k = 100 ∨ m 82 k = 103 ∨ m 82 k = 108 ∨ m 82 k = 115 ∨ m 82 k = 119 ∨ (¬ m 82 k = 100 ∧ ¬ m 82 k = 103 ∧ ¬ m 82 k = 108 ∧ ¬ m 82 k = 115 ∧ ¬ m 82 k = 119)) with c1 | c1 | c1 | c1 | c1 | c1
      · first | (exfalso; omega; done) | skip
        all_goals (
          refine x_look (i := 27) (off := 241) (tgt := 279) rfl (by decide) ⟨by omega, by omega⟩ (by rw [c1]; rfl) (by decide) ?_
          exfalso; omega
          skip)
      · first | (exfalso; omega; done) | skip
        all_goals (
          refine x_look (i := 27) (off := 207) (tgt := 245) rfl (by decide) ⟨by omega, by omega⟩ (by rw [c1]; rfl) (by decide) ?_
          refine x_iload_n (i := 120) (pc' := 246) rfl rfl rfl rfl ?_
          refine x_iload (i := 121) (pc' := 248) rfl rfl rfl ?_
          refine m_callS (i := 122) (pc' := 251) (av := [_, _]) (rest := []) rfl rfl (by decide) lX12_95 rfl rfl (Nat.le_of_ble_eq_true rfl) (Nat.le_refl _) (Nat.le_refl _) (s_X12_isWeight r0 r1 ?_)
          dsimp only [psh]
          rw [if_neg z1]
          refine x_istore (L' := [some _, some _, some _, some _, some _, some _, some _, none, none]) (i := 123) (pc' := 253) rfl rfl rfl (by decide) rfl ?_
          refine x_iload (i := 124) (pc' := 255) rfl rfl rfl ?_
          refine x_ifeq (i := 125) (pc' := 258) (tgt := 270) rfl rfl (by decide) ⟨by omega, by omega⟩ (fun c2 => ?_) (fun c2 => ?_)
          · first | (exfalso; omega; done) | skip
            all_goals (
              refine x_iload (i := 133) (pc' := 272) rfl rfl rfl ?_
              exact m_zreturn (i := 134) rfl rfl (by omega) (by first | exact hQ | (exfalso; omega))
              skip)
          · first | (exfalso; omega; done) | skip
            all_goals (
              refine x_aload_n (i := 126) (pc' := 259) rfl rfl rfl rfl ?_
              refine m_getf (i := 127) (pc' := 262) rfl rfl flX12_7 (sh76 G) rfl rfl ?_
              refine x_sipush (i := 128) (pc' := 265) rfl rfl (by decide) ?_
              refine x_iload_n (i := 129) (pc' := 266) rfl rfl rfl rfl ?_
              refine x_iadd (i := 130) (pc' := 267) rfl rfl ?_
              refine x_iload (i := 131) (pc' := 269) rfl rfl rfl ?_
              refine m_iast (i := 132) (pc' := 270) rfl rfl (sh77 G) (by decide) ⟨by omega, by omega⟩ ?_
              refine x_iload (i := 133) (pc' := 272) rfl rfl rfl ?_
              exact m_zreturn (i := 134) rfl rfl (by omega) (by first | exact hQ | (exfalso; omega))
              skip)
          skip)
      · first | (exfalso; omega; done) | skip
        all_goals (
          refine x_look (i := 27) (off := 235) (tgt := 273) rfl (by decide) ⟨by omega, by omega⟩ (by rw [c1]; rfl) (by decide) ?_
          exfalso; omega
          skip)
      · first | (exfalso; omega; done) | skip
        all_goals (
          refine x_look (i := 27) (off := 50) (tgt := 88) rfl (by decide) ⟨by omega, by omega⟩ (by rw [c1]; rfl) (by decide) ?_
          exfalso; omega
          skip)
      · first | (exfalso; omega; done) | skip
        all_goals (
          refine x_look (i := 27) (off := 119) (tgt := 157) rfl (by decide) ⟨by omega, by omega⟩ (by rw [c1]; rfl) (by decide) ?_
          exfalso; omega
          skip)
      · first | (exfalso; omega; done) | skip
        all_goals (
          refine x_look (i := 27) (off := 270) (tgt := 308) rfl (by decide) ⟨by omega, by omega⟩ (by simp [Op.lookupswitch.offset]; (repeat' split) <;> omega) (by decide) ?_
          exfalso; omega
          skip)
  rw [if_neg k3, if_neg k3] at hQ
  by_cases k4 : m 82 k = 108
  · rw [if_pos k4, if_pos k4] at hQ
    refine x_bipush (i := 0) (pc' := 2) rfl rfl (by decide) ?_
    refine x_iload_n (i := 1) (pc' := 3) rfl rfl rfl rfl ?_
    refine x_imul (i := 2) (pc' := 4) rfl rfl ?_
    refine x_istore_n (L' := [some _, some _, some _, none, none, none, none, none, none]) (i := 3) (pc' := 5) rfl rfl rfl rfl (by decide) rfl ?_
    refine x_aload_n (i := 4) (pc' := 6) rfl rfl rfl rfl ?_
    refine m_getf (i := 5) (pc' := 9) rfl rfl flX12_31 (sh76 G) rfl rfl ?_
    refine x_iload_n (i := 6) (pc' := 10) rfl rfl rfl rfl ?_
    refine m_iald (i := 7) (pc' := 11) rfl rfl (sh84 G) (by decide) ⟨by omega, by omega⟩ ?_
    refine x_istore_n (L' := [some _, some _, some _, some _, none, none, none, none, none]) (i := 8) (pc' := 12) rfl rfl rfl rfl (by decide) rfl ?_
    refine x_aload_n (i := 9) (pc' := 13) rfl rfl rfl rfl ?_
    refine m_getf (i := 10) (pc' := 16) rfl rfl flX12_31 (sh76 G) rfl rfl ?_
    refine x_iload_n (i := 11) (pc' := 17) rfl rfl rfl rfl ?_
    refine x_iconst (i := 12) (pc' := 18) rfl rfl ?_
    refine x_iadd (i := 13) (pc' := 19) rfl rfl ?_
    refine m_iald (i := 14) (pc' := 20) rfl rfl (sh84 G) (by decide) ⟨by omega, by omega⟩ ?_
    refine x_istore (L' := [some _, some _, some _, some _, some _, none, none, none, none]) (i := 15) (pc' := 22) rfl rfl rfl (by decide) rfl ?_
    refine x_aload_n (i := 16) (pc' := 23) rfl rfl rfl rfl ?_
    refine m_getf (i := 17) (pc' := 26) rfl rfl flX12_31 (sh76 G) rfl rfl ?_
    refine x_iload_n (i := 18) (pc' := 27) rfl rfl rfl rfl ?_
    refine x_iconst (i := 19) (pc' := 28) rfl rfl ?_
    refine x_iadd (i := 20) (pc' := 29) rfl rfl ?_
    refine m_iald (i := 21) (pc' := 30) rfl rfl (sh84 G) (by decide) ⟨by omega, by omega⟩ ?_
    refine x_istore (L' := [some _, some _, some _, some _, some _, some _, none, none, none]) (i := 22) (pc' := 32) rfl rfl rfl (by decide) rfl ?_
    refine x_aload_n (i := 23) (pc' := 33) rfl rfl rfl rfl ?_
    refine m_getf (i := 24) (pc' := 36) rfl rfl flX12_25 (sh76 G) rfl rfl ?_
    refine x_iload_n (i := 25) (pc' := 37) rfl rfl rfl rfl ?_
    refine m_iald (i := 26) (pc' := 38) rfl rfl (sh82 G) (by decide) ⟨by omega, by omega⟩ ?_
    rcases (by omega : m 82 k = 100 ∨ m 82 k = 103 ∨ m 82 k = 108 ∨ m 82 k = 115 ∨ m 82 k = 119 ∨ (¬ m 82 k = 100 ∧ ¬ m 82 k = 103 ∧ ¬ m 82 k = 108 ∧ ¬ m 82 k = 115 ∧ ¬ m 82 k = 119)) with c1 | c1 | c1 | c1 | c1 | c1
    · first | (exfalso; omega; done) | skip
      all_goals (
        refine x_look (i := 27) (off := 241) (tgt := 279) rfl (by decide) ⟨by omega, by omega⟩ (by rw [c1]; rfl) (by decide) ?_
        exfalso; omega
        skip)
    · first | (exfalso; omega; done) | skip
      all_goals (
        refine x_look (i := 27) (off := 207) (tgt := 245) rfl (by decide) ⟨by omega, by omega⟩ (by rw [c1]; rfl) (by decide) ?_
        exfalso; omega
        skip)
    · first | (exfalso; omega; done) | skip
      all_goals (
        refine x_look (i := 27) (off := 235) (tgt := 273) rfl (by decide) ⟨by omega, by omega⟩ (by rw [c1]; rfl) (by decide) ?_
        refine x_aload_n (i := 135) (pc' := 274) rfl rfl rfl rfl ?_
        refine x_iload_n (i := 136) (pc' := 275) rfl rfl rfl rfl ?_
        refine m_callV (i := 137) (pc' := 278) (av := [_]) (rest := []) rfl rfl (by decide) lX12_280 (sh76 G) rfl rfl rfl rfl rfl (Nat.le_of_ble_eq_true rfl) (Nat.le_refl _) (Nat.le_refl _) (s_X12_laysAll hM (by omega) ?_)
        dsimp only [psh]
        exact m_zreturn (i := 138) rfl rfl (by omega) (by first | exact hQ | (exfalso; omega))
        skip)
    · first | (exfalso; omega; done) | skip
      all_goals (
        refine x_look (i := 27) (off := 50) (tgt := 88) rfl (by decide) ⟨by omega, by omega⟩ (by rw [c1]; rfl) (by decide) ?_
        exfalso; omega
        skip)
    · first | (exfalso; omega; done) | skip
      all_goals (
        refine x_look (i := 27) (off := 119) (tgt := 157) rfl (by decide) ⟨by omega, by omega⟩ (by rw [c1]; rfl) (by decide) ?_
        exfalso; omega
        skip)
    · first | (exfalso; omega; done) | skip
      all_goals (
        refine x_look (i := 27) (off := 270) (tgt := 308) rfl (by decide) ⟨by omega, by omega⟩ (by simp [Op.lookupswitch.offset]; (repeat' split) <;> omega) (by decide) ?_
        exfalso; omega
        skip)
  rw [if_neg k4, if_neg k4] at hQ
  by_cases k5 : m 82 k = 100
  · rw [if_pos k5, if_pos k5] at hQ
    by_cases z1 : cnd m (m 84 (6 * k)) = 0
    · rw [if_pos z1, if_pos z1] at hQ
      refine x_bipush (i := 0) (pc' := 2) rfl rfl (by decide) ?_
      refine x_iload_n (i := 1) (pc' := 3) rfl rfl rfl rfl ?_
      refine x_imul (i := 2) (pc' := 4) rfl rfl ?_
      refine x_istore_n (L' := [some _, some _, some _, none, none, none, none, none, none]) (i := 3) (pc' := 5) rfl rfl rfl rfl (by decide) rfl ?_
      refine x_aload_n (i := 4) (pc' := 6) rfl rfl rfl rfl ?_
      refine m_getf (i := 5) (pc' := 9) rfl rfl flX12_31 (sh76 G) rfl rfl ?_
      refine x_iload_n (i := 6) (pc' := 10) rfl rfl rfl rfl ?_
      refine m_iald (i := 7) (pc' := 11) rfl rfl (sh84 G) (by decide) ⟨by omega, by omega⟩ ?_
      refine x_istore_n (L' := [some _, some _, some _, some _, none, none, none, none, none]) (i := 8) (pc' := 12) rfl rfl rfl rfl (by decide) rfl ?_
      refine x_aload_n (i := 9) (pc' := 13) rfl rfl rfl rfl ?_
      refine m_getf (i := 10) (pc' := 16) rfl rfl flX12_31 (sh76 G) rfl rfl ?_
      refine x_iload_n (i := 11) (pc' := 17) rfl rfl rfl rfl ?_
      refine x_iconst (i := 12) (pc' := 18) rfl rfl ?_
      refine x_iadd (i := 13) (pc' := 19) rfl rfl ?_
      refine m_iald (i := 14) (pc' := 20) rfl rfl (sh84 G) (by decide) ⟨by omega, by omega⟩ ?_
      refine x_istore (L' := [some _, some _, some _, some _, some _, none, none, none, none]) (i := 15) (pc' := 22) rfl rfl rfl (by decide) rfl ?_
      refine x_aload_n (i := 16) (pc' := 23) rfl rfl rfl rfl ?_
      refine m_getf (i := 17) (pc' := 26) rfl rfl flX12_31 (sh76 G) rfl rfl ?_
      refine x_iload_n (i := 18) (pc' := 27) rfl rfl rfl rfl ?_
      refine x_iconst (i := 19) (pc' := 28) rfl rfl ?_
      refine x_iadd (i := 20) (pc' := 29) rfl rfl ?_
      refine m_iald (i := 21) (pc' := 30) rfl rfl (sh84 G) (by decide) ⟨by omega, by omega⟩ ?_
      refine x_istore (L' := [some _, some _, some _, some _, some _, some _, none, none, none]) (i := 22) (pc' := 32) rfl rfl rfl (by decide) rfl ?_
      refine x_aload_n (i := 23) (pc' := 33) rfl rfl rfl rfl ?_
      refine m_getf (i := 24) (pc' := 36) rfl rfl flX12_25 (sh76 G) rfl rfl ?_
      refine x_iload_n (i := 25) (pc' := 37) rfl rfl rfl rfl ?_
      refine m_iald (i := 26) (pc' := 38) rfl rfl (sh82 G) (by decide) ⟨by omega, by omega⟩ ?_
      rcases (by omega : m 82 k = 100 ∨ m 82 k = 103 ∨ m 82 k = 108 ∨ m 82 k = 115 ∨ m 82 k = 119 ∨ (¬ m 82 k = 100 ∧ ¬ m 82 k = 103 ∧ ¬ m 82 k = 108 ∧ ¬ m 82 k = 115 ∧ ¬ m 82 k = 119)) with c1 | c1 | c1 | c1 | c1 | c1
      · first | (exfalso; omega; done) | skip
        all_goals (
          refine x_look (i := 27) (off := 241) (tgt := 279) rfl (by decide) ⟨by omega, by omega⟩ (by rw [c1]; rfl) (by decide) ?_
          refine x_aload_n (i := 139) (pc' := 280) rfl rfl rfl rfl ?_
          refine x_iload_n (i := 140) (pc' := 281) rfl rfl rfl rfl ?_
          refine m_callV (i := 141) (pc' := 284) (av := [_]) (rest := []) rfl rfl (by decide) lX12_87 (sh76 G) rfl rfl rfl rfl rfl (Nat.le_of_ble_eq_true rfl) (Nat.le_refl _) (Nat.le_refl _) (s_X12_canDrop hM hn hc r0 ?_)
          dsimp only [psh]
          refine x_ifne (i := 142) (pc' := 287) (tgt := 291) rfl rfl (by decide) ⟨by omega, by omega⟩ (fun c2 => ?_) (fun c2 => ?_)
          · first | (exfalso; omega; done) | skip
            all_goals (
              refine x_iconst (i := 145) (pc' := 292) rfl rfl ?_
              refine x_istore (L' := [some _, some _, some _, some _, some _, some _, some _, none, none]) (i := 146) (pc' := 294) rfl rfl rfl (by decide) rfl ?_
              refine x_iload (i := 147) (pc' := 296) rfl rfl rfl ?_
              refine x_ifeq (i := 148) (pc' := 299) (tgt := 305) rfl rfl (by decide) ⟨by omega, by omega⟩ (fun c3 => ?_) (fun c3 => ?_)
              · first | (exfalso; omega; done) | skip
                all_goals (
                  refine x_iload (i := 153) (pc' := 307) rfl rfl rfl ?_
                  exact m_zreturn (i := 154) rfl rfl (by omega) (by first | exact hQ | (exfalso; omega))
                  skip)
              · first | (exfalso; omega; done) | skip
                all_goals (
                  refine x_aload_n (i := 149) (pc' := 300) rfl rfl rfl rfl ?_
                  refine x_iload_n (i := 150) (pc' := 301) rfl rfl rfl rfl ?_
                  refine m_callV (i := 151) (pc' := 304) (av := [_]) (rest := []) rfl rfl (by decide) lX12_90 (sh76 G) rfl rfl rfl rfl rfl (Nat.le_of_ble_eq_true rfl) (Nat.le_refl _) (Nat.le_refl _) (s_X12_goes hM hn hc (cnd_0 z1) hw ?_)
                  dsimp only [psh]
                  refine x_pop (i := 152) (pc' := 305) rfl rfl rfl ?_
                  refine x_iload (i := 153) (pc' := 307) rfl rfl rfl ?_
                  exact m_zreturn (i := 154) rfl rfl (by omega) (by first | exact hQ | (exfalso; omega))
                  skip)
              skip)
          · first | (exfalso; omega; done) | skip
            all_goals (
              refine x_iconst (i := 143) (pc' := 288) rfl rfl ?_
              refine x_goto (i := 144) (pc' := 292) rfl (by decide) ?_
              refine x_istore (L' := [some _, some _, some _, some _, some _, some _, some _, none, none]) (i := 146) (pc' := 294) rfl rfl rfl (by decide) rfl ?_
              refine x_iload (i := 147) (pc' := 296) rfl rfl rfl ?_
              refine x_ifeq (i := 148) (pc' := 299) (tgt := 305) rfl rfl (by decide) ⟨by omega, by omega⟩ (fun c4 => ?_) (fun c4 => ?_)
              · first | (exfalso; omega; done) | skip
                all_goals (
                  refine x_iload (i := 153) (pc' := 307) rfl rfl rfl ?_
                  exact m_zreturn (i := 154) rfl rfl (by omega) (by first | exact hQ | (exfalso; omega))
                  skip)
              · first | (exfalso; omega; done) | skip
                all_goals (
                  refine x_aload_n (i := 149) (pc' := 300) rfl rfl rfl rfl ?_
                  refine x_iload_n (i := 150) (pc' := 301) rfl rfl rfl rfl ?_
                  refine m_callV (i := 151) (pc' := 304) (av := [_]) (rest := []) rfl rfl (by decide) lX12_90 (sh76 G) rfl rfl rfl rfl rfl (Nat.le_of_ble_eq_true rfl) (Nat.le_refl _) (Nat.le_refl _) (s_X12_goes hM hn hc (cnd_0 z1) hw ?_)
                  dsimp only [psh]
                  refine x_pop (i := 152) (pc' := 305) rfl rfl rfl ?_
                  refine x_iload (i := 153) (pc' := 307) rfl rfl rfl ?_
                  exact m_zreturn (i := 154) rfl rfl (by omega) (by first | exact hQ | (exfalso; omega))
                  skip)
              skip)
          skip)
      · first | (exfalso; omega; done) | skip
        all_goals (
          refine x_look (i := 27) (off := 207) (tgt := 245) rfl (by decide) ⟨by omega, by omega⟩ (by rw [c1]; rfl) (by decide) ?_
          exfalso; omega
          skip)
      · first | (exfalso; omega; done) | skip
        all_goals (
          refine x_look (i := 27) (off := 235) (tgt := 273) rfl (by decide) ⟨by omega, by omega⟩ (by rw [c1]; rfl) (by decide) ?_
          exfalso; omega
          skip)
      · first | (exfalso; omega; done) | skip
        all_goals (
          refine x_look (i := 27) (off := 50) (tgt := 88) rfl (by decide) ⟨by omega, by omega⟩ (by rw [c1]; rfl) (by decide) ?_
          exfalso; omega
          skip)
      · first | (exfalso; omega; done) | skip
        all_goals (
          refine x_look (i := 27) (off := 119) (tgt := 157) rfl (by decide) ⟨by omega, by omega⟩ (by rw [c1]; rfl) (by decide) ?_
          exfalso; omega
          skip)
      · first | (exfalso; omega; done) | skip
        all_goals (
          refine x_look (i := 27) (off := 270) (tgt := 308) rfl (by decide) ⟨by omega, by omega⟩ (by simp [Op.lookupswitch.offset]; (repeat' split) <;> omega) (by decide) ?_
          exfalso; omega
          skip)
    · rw [if_neg z1, if_neg z1] at hQ
      refine x_bipush (i := 0) (pc' := 2) rfl rfl (by decide) ?_
      refine x_iload_n (i := 1) (pc' := 3) rfl rfl rfl rfl ?_
      refine x_imul (i := 2) (pc' := 4) rfl rfl ?_
      refine x_istore_n (L' := [some _, some _, some _, none, none, none, none, none, none]) (i := 3) (pc' := 5) rfl rfl rfl rfl (by decide) rfl ?_
      refine x_aload_n (i := 4) (pc' := 6) rfl rfl rfl rfl ?_
      refine m_getf (i := 5) (pc' := 9) rfl rfl flX12_31 (sh76 G) rfl rfl ?_
      refine x_iload_n (i := 6) (pc' := 10) rfl rfl rfl rfl ?_
      refine m_iald (i := 7) (pc' := 11) rfl rfl (sh84 G) (by decide) ⟨by omega, by omega⟩ ?_
      refine x_istore_n (L' := [some _, some _, some _, some _, none, none, none, none, none]) (i := 8) (pc' := 12) rfl rfl rfl rfl (by decide) rfl ?_
      refine x_aload_n (i := 9) (pc' := 13) rfl rfl rfl rfl ?_
      refine m_getf (i := 10) (pc' := 16) rfl rfl flX12_31 (sh76 G) rfl rfl ?_
      refine x_iload_n (i := 11) (pc' := 17) rfl rfl rfl rfl ?_
      refine x_iconst (i := 12) (pc' := 18) rfl rfl ?_
      refine x_iadd (i := 13) (pc' := 19) rfl rfl ?_
      refine m_iald (i := 14) (pc' := 20) rfl rfl (sh84 G) (by decide) ⟨by omega, by omega⟩ ?_
      refine x_istore (L' := [some _, some _, some _, some _, some _, none, none, none, none]) (i := 15) (pc' := 22) rfl rfl rfl (by decide) rfl ?_
      refine x_aload_n (i := 16) (pc' := 23) rfl rfl rfl rfl ?_
      refine m_getf (i := 17) (pc' := 26) rfl rfl flX12_31 (sh76 G) rfl rfl ?_
      refine x_iload_n (i := 18) (pc' := 27) rfl rfl rfl rfl ?_
      refine x_iconst (i := 19) (pc' := 28) rfl rfl ?_
      refine x_iadd (i := 20) (pc' := 29) rfl rfl ?_
      refine m_iald (i := 21) (pc' := 30) rfl rfl (sh84 G) (by decide) ⟨by omega, by omega⟩ ?_
      refine x_istore (L' := [some _, some _, some _, some _, some _, some _, none, none, none]) (i := 22) (pc' := 32) rfl rfl rfl (by decide) rfl ?_
      refine x_aload_n (i := 23) (pc' := 33) rfl rfl rfl rfl ?_
      refine m_getf (i := 24) (pc' := 36) rfl rfl flX12_25 (sh76 G) rfl rfl ?_
      refine x_iload_n (i := 25) (pc' := 37) rfl rfl rfl rfl ?_
      refine m_iald (i := 26) (pc' := 38) rfl rfl (sh82 G) (by decide) ⟨by omega, by omega⟩ ?_
      rcases (by omega : m 82 k = 100 ∨ m 82 k = 103 ∨ m 82 k = 108 ∨ m 82 k = 115 ∨ m 82 k = 119 ∨ (¬ m 82 k = 100 ∧ ¬ m 82 k = 103 ∧ ¬ m 82 k = 108 ∧ ¬ m 82 k = 115 ∧ ¬ m 82 k = 119)) with c1 | c1 | c1 | c1 | c1 | c1
      · first | (exfalso; omega; done) | skip
        all_goals (
          refine x_look (i := 27) (off := 241) (tgt := 279) rfl (by decide) ⟨by omega, by omega⟩ (by rw [c1]; rfl) (by decide) ?_
          refine x_aload_n (i := 139) (pc' := 280) rfl rfl rfl rfl ?_
          refine x_iload_n (i := 140) (pc' := 281) rfl rfl rfl rfl ?_
          refine m_callV (i := 141) (pc' := 284) (av := [_]) (rest := []) rfl rfl (by decide) lX12_87 (sh76 G) rfl rfl rfl rfl rfl (Nat.le_of_ble_eq_true rfl) (Nat.le_refl _) (Nat.le_refl _) (s_X12_canDrop hM hn hc r0 ?_)
          dsimp only [psh]
          refine x_ifne (i := 142) (pc' := 287) (tgt := 291) rfl rfl (by decide) ⟨by omega, by omega⟩ (fun c2 => ?_) (fun c2 => ?_)
          · first | (exfalso; omega; done) | skip
            all_goals (
              refine x_iconst (i := 145) (pc' := 292) rfl rfl ?_
              refine x_istore (L' := [some _, some _, some _, some _, some _, some _, some _, none, none]) (i := 146) (pc' := 294) rfl rfl rfl (by decide) rfl ?_
              refine x_iload (i := 147) (pc' := 296) rfl rfl rfl ?_
              refine x_ifeq (i := 148) (pc' := 299) (tgt := 305) rfl rfl (by decide) ⟨by omega, by omega⟩ (fun c3 => ?_) (fun c3 => ?_)
              · first | (exfalso; omega; done) | skip
                all_goals (
                  refine x_iload (i := 153) (pc' := 307) rfl rfl rfl ?_
                  exact m_zreturn (i := 154) rfl rfl (by omega) (by first | exact hQ | (exfalso; omega))
                  skip)
              · first | (exfalso; omega; done) | skip
                all_goals (
                  refine x_aload_n (i := 149) (pc' := 300) rfl rfl rfl rfl ?_
                  refine x_iload_n (i := 150) (pc' := 301) rfl rfl rfl rfl ?_
                  refine m_callV (i := 151) (pc' := 304) (av := [_]) (rest := []) rfl rfl (by decide) lX12_90 (sh76 G) rfl rfl rfl rfl rfl (Nat.le_of_ble_eq_true rfl) (Nat.le_refl _) (Nat.le_refl _) (s_X12_goes hM hn hc (cnd_0 z1) hw ?_)
                  dsimp only [psh]
                  refine x_pop (i := 152) (pc' := 305) rfl rfl rfl ?_
                  refine x_iload (i := 153) (pc' := 307) rfl rfl rfl ?_
                  exact m_zreturn (i := 154) rfl rfl (by omega) (by first | exact hQ | (exfalso; omega))
                  skip)
              skip)
          · first | (exfalso; omega; done) | skip
            all_goals (
              refine x_iconst (i := 143) (pc' := 288) rfl rfl ?_
              refine x_goto (i := 144) (pc' := 292) rfl (by decide) ?_
              refine x_istore (L' := [some _, some _, some _, some _, some _, some _, some _, none, none]) (i := 146) (pc' := 294) rfl rfl rfl (by decide) rfl ?_
              refine x_iload (i := 147) (pc' := 296) rfl rfl rfl ?_
              refine x_ifeq (i := 148) (pc' := 299) (tgt := 305) rfl rfl (by decide) ⟨by omega, by omega⟩ (fun c4 => ?_) (fun c4 => ?_)
              · first | (exfalso; omega; done) | skip
                all_goals (
                  refine x_iload (i := 153) (pc' := 307) rfl rfl rfl ?_
                  exact m_zreturn (i := 154) rfl rfl (by omega) (by first | exact hQ | (exfalso; omega))
                  skip)
              · first | (exfalso; omega; done) | skip
                all_goals (
                  refine x_aload_n (i := 149) (pc' := 300) rfl rfl rfl rfl ?_
                  refine x_iload_n (i := 150) (pc' := 301) rfl rfl rfl rfl ?_
                  refine m_callV (i := 151) (pc' := 304) (av := [_]) (rest := []) rfl rfl (by decide) lX12_90 (sh76 G) rfl rfl rfl rfl rfl (Nat.le_of_ble_eq_true rfl) (Nat.le_refl _) (Nat.le_refl _) (s_X12_goes hM hn hc (cnd_0 z1) hw ?_)
                  dsimp only [psh]
                  refine x_pop (i := 152) (pc' := 305) rfl rfl rfl ?_
                  refine x_iload (i := 153) (pc' := 307) rfl rfl rfl ?_
                  exact m_zreturn (i := 154) rfl rfl (by omega) (by first | exact hQ | (exfalso; omega))
                  skip)
              skip)
          skip)
      · first | (exfalso; omega; done) | skip
        all_goals (
          refine x_look (i := 27) (off := 207) (tgt := 245) rfl (by decide) ⟨by omega, by omega⟩ (by rw [c1]; rfl) (by decide) ?_
          exfalso; omega
          skip)
      · first | (exfalso; omega; done) | skip
        all_goals (
          refine x_look (i := 27) (off := 235) (tgt := 273) rfl (by decide) ⟨by omega, by omega⟩ (by rw [c1]; rfl) (by decide) ?_
          exfalso; omega
          skip)
      · first | (exfalso; omega; done) | skip
        all_goals (
          refine x_look (i := 27) (off := 50) (tgt := 88) rfl (by decide) ⟨by omega, by omega⟩ (by rw [c1]; rfl) (by decide) ?_
          exfalso; omega
          skip)
      · first | (exfalso; omega; done) | skip
        all_goals (
          refine x_look (i := 27) (off := 119) (tgt := 157) rfl (by decide) ⟨by omega, by omega⟩ (by rw [c1]; rfl) (by decide) ?_
          exfalso; omega
          skip)
      · first | (exfalso; omega; done) | skip
        all_goals (
          refine x_look (i := 27) (off := 270) (tgt := 308) rfl (by decide) ⟨by omega, by omega⟩ (by simp [Op.lookupswitch.offset]; (repeat' split) <;> omega) (by decide) ?_
          exfalso; omega
          skip)
  rw [if_neg k5, if_neg k5] at hQ
  refine x_bipush (i := 0) (pc' := 2) rfl rfl (by decide) ?_
  refine x_iload_n (i := 1) (pc' := 3) rfl rfl rfl rfl ?_
  refine x_imul (i := 2) (pc' := 4) rfl rfl ?_
  refine x_istore_n (L' := [some _, some _, some _, none, none, none, none, none, none]) (i := 3) (pc' := 5) rfl rfl rfl rfl (by decide) rfl ?_
  refine x_aload_n (i := 4) (pc' := 6) rfl rfl rfl rfl ?_
  refine m_getf (i := 5) (pc' := 9) rfl rfl flX12_31 (sh76 G) rfl rfl ?_
  refine x_iload_n (i := 6) (pc' := 10) rfl rfl rfl rfl ?_
  refine m_iald (i := 7) (pc' := 11) rfl rfl (sh84 G) (by decide) ⟨by omega, by omega⟩ ?_
  refine x_istore_n (L' := [some _, some _, some _, some _, none, none, none, none, none]) (i := 8) (pc' := 12) rfl rfl rfl rfl (by decide) rfl ?_
  refine x_aload_n (i := 9) (pc' := 13) rfl rfl rfl rfl ?_
  refine m_getf (i := 10) (pc' := 16) rfl rfl flX12_31 (sh76 G) rfl rfl ?_
  refine x_iload_n (i := 11) (pc' := 17) rfl rfl rfl rfl ?_
  refine x_iconst (i := 12) (pc' := 18) rfl rfl ?_
  refine x_iadd (i := 13) (pc' := 19) rfl rfl ?_
  refine m_iald (i := 14) (pc' := 20) rfl rfl (sh84 G) (by decide) ⟨by omega, by omega⟩ ?_
  refine x_istore (L' := [some _, some _, some _, some _, some _, none, none, none, none]) (i := 15) (pc' := 22) rfl rfl rfl (by decide) rfl ?_
  refine x_aload_n (i := 16) (pc' := 23) rfl rfl rfl rfl ?_
  refine m_getf (i := 17) (pc' := 26) rfl rfl flX12_31 (sh76 G) rfl rfl ?_
  refine x_iload_n (i := 18) (pc' := 27) rfl rfl rfl rfl ?_
  refine x_iconst (i := 19) (pc' := 28) rfl rfl ?_
  refine x_iadd (i := 20) (pc' := 29) rfl rfl ?_
  refine m_iald (i := 21) (pc' := 30) rfl rfl (sh84 G) (by decide) ⟨by omega, by omega⟩ ?_
  refine x_istore (L' := [some _, some _, some _, some _, some _, some _, none, none, none]) (i := 22) (pc' := 32) rfl rfl rfl (by decide) rfl ?_
  refine x_aload_n (i := 23) (pc' := 33) rfl rfl rfl rfl ?_
  refine m_getf (i := 24) (pc' := 36) rfl rfl flX12_25 (sh76 G) rfl rfl ?_
  refine x_iload_n (i := 25) (pc' := 37) rfl rfl rfl rfl ?_
  refine m_iald (i := 26) (pc' := 38) rfl rfl (sh82 G) (by decide) ⟨by omega, by omega⟩ ?_
  rcases (by omega : m 82 k = 100 ∨ m 82 k = 103 ∨ m 82 k = 108 ∨ m 82 k = 115 ∨ m 82 k = 119 ∨ (¬ m 82 k = 100 ∧ ¬ m 82 k = 103 ∧ ¬ m 82 k = 108 ∧ ¬ m 82 k = 115 ∧ ¬ m 82 k = 119)) with c1 | c1 | c1 | c1 | c1 | c1
  · first | (exfalso; omega; done) | skip
    all_goals (
      refine x_look (i := 27) (off := 241) (tgt := 279) rfl (by decide) ⟨by omega, by omega⟩ (by rw [c1]; rfl) (by decide) ?_
      exfalso; omega
      skip)
  · first | (exfalso; omega; done) | skip
    all_goals (
      refine x_look (i := 27) (off := 207) (tgt := 245) rfl (by decide) ⟨by omega, by omega⟩ (by rw [c1]; rfl) (by decide) ?_
      exfalso; omega
      skip)
  · first | (exfalso; omega; done) | skip
    all_goals (
      refine x_look (i := 27) (off := 235) (tgt := 273) rfl (by decide) ⟨by omega, by omega⟩ (by rw [c1]; rfl) (by decide) ?_
      exfalso; omega
      skip)
  · first | (exfalso; omega; done) | skip
    all_goals (
      refine x_look (i := 27) (off := 50) (tgt := 88) rfl (by decide) ⟨by omega, by omega⟩ (by rw [c1]; rfl) (by decide) ?_
      exfalso; omega
      skip)
  · first | (exfalso; omega; done) | skip
    all_goals (
      refine x_look (i := 27) (off := 119) (tgt := 157) rfl (by decide) ⟨by omega, by omega⟩ (by rw [c1]; rfl) (by decide) ?_
      exfalso; omega
      skip)
  · first | (exfalso; omega; done) | skip
    all_goals (
      refine x_look (i := 27) (off := 270) (tgt := 308) rfl (by decide) ⟨by omega, by omega⟩ (by simp [Op.lookupswitch.offset]; (repeat' split) <;> omega) (by decide) ?_
      refine x_aload_n (i := 155) (pc' := 309) rfl rfl rfl rfl ?_
      refine m_callV (i := 156) (pc' := 312) (av := []) (rest := []) rfl rfl (by decide) lX12_186 (sh76 G) rfl rfl rfl rfl rfl (Nat.le_of_ble_eq_true rfl) (Nat.le_refl _) (Nat.le_refl _) (s_X12_clearsAll ?_)
      dsimp only [psh]
      refine x_pop (i := 157) (pc' := 313) rfl rfl rfl ?_
      refine x_iconst (i := 158) (pc' := 314) rfl rfl ?_
      exact m_zreturn (i := 159) rfl rfl (by omega) (by first | exact hQ | (exfalso; omega))
      skip)
def dgd : Nat → Int → Mem → Prop
  | 0, _, _ => True
  | c + 1, k, x => DG x k ∧ (¬ dor x k = 0 → dgd c (k + 1) (dox x k))
def rdl : Nat → Int → Mem → Int × Mem
  | 0, _, x => (-1, x)
  | c + 1, k, x => if dor x k = 0 then (k, x) else rdl c (k + 1) (dox x k)
theorem gos1_ne (m : Mem) (k : Int) {q : Nat} (h : q ≠ 77) : gos1 m k q = m q := by
  unfold gos1
  rw [it_8 (fun i x => stm_ne _ _ _ h) _ _ _, stm_ne _ _ _ h]
theorem gos_ne (m : Mem) (k : Int) {q : Nat} (h : q ≠ 77) : gos m k q = m q := by
  unfold gos
  rw [it_8 (f := fun i x => gos2 k i x) (q := q) (fun i x => stm_ne _ _ _ h), gos1_ne m k h]
theorem lcm_ne (m : Mem) (k : Int) {q : Nat} (h : q ≠ 77) : lcm_ m k q = m q := it_8 (fun i x => stm_ne _ _ _ h) _ _ _
theorem adm_ne (m : Mem) (a b c d e : Int) {q : Nat} (h : q ≠ 77) : adm m a b c d e q = m q := by
  unfold adm
  rw [stm_ne _ _ _ h, stm_ne _ _ _ h, stm_ne _ _ _ h, stm_ne _ _ _ h, stm_ne _ _ _ h, stm_ne _ _ _ h]
theorem sym_ne (m : Mem) (a b c : Int) {q : Nat} (h : q ≠ 77) : sym m a b c q = m q := by
  unfold sym
  rw [stm_ne _ _ _ h, stm_ne _ _ _ h, stm_ne _ _ _ h, stm_ne _ _ _ h]
theorem dox_ne (m : Mem) (k : Int) {q : Nat} (h : q ≠ 77) : dox m k q = m q := by
  unfold dox lax_
  (repeat' split) <;> first | rfl | exact adm_ne _ _ _ _ _ _ h | exact sym_ne _ _ _ _ h | exact stm_ne _ _ _ h | exact lcm_ne _ _ h | exact gos_ne _ _ h
theorem rdl_ne {q : Nat} (h : q ≠ 77) : ∀ (c : Nat) (k : Int) (x : Mem), (rdl c k x).2 q = x q
  | 0, k, x => rfl
  | c + 1, k, x => by
    unfold rdl
    split
    · rfl
    · rw [rdl_ne h c, dox_ne _ _ h]
theorem rdl_k : ∀ (c : Nat) (k : Int) (x : Mem), (rdl c k x).1 = -1 ∨ (k ≤ (rdl c k x).1 ∧ (rdl c k x).1 < k + c)
  | 0, k, x => Or.inl rfl
  | c + 1, k, x => by
    unfold rdl
    split
    · right; dsimp only; omega
    · rcases rdl_k c (k + 1) (dox x k) with h | h
      · left; exact h
      · right; omega
def rde (x : Mem) : Mem := mcp (mdm (mcp (mcp x 0 980) 840 0)) 980 0
def rdz (n : Int) (r : Int × Mem) : Int × Mem := if r.1 = -1 then (n, rde r.2) else (-1000 - r.1, mcp r.2 840 0)
def rds_ (y : Mem) : Int × Mem := rdz (y 76 9) (rdl (y 76 9).toNat 0 (mcp y 0 840))
def rdm (m : Mem) : Int × Mem := if (rdA m).1 = 0 then (-10 - (rdA m).2 76 8, (rdA m).2) else rds_ (rdA m).2
theorem rd_d {G : GG} {Q : Option Value → Mem → Prop} {x : Mem} {L1 : Option Value} {n : Int} (hn : x 76 9 = n) (hQ : Q (some (.int (J n))) (mcp x 980 0)) : BW G 5 mX12_reads Q 81 [some (.ref (G.2.2.2 76)), L1] [] x := by
  have e : mcp x 980 0 76 9 = n := by rw [mcp_ne _ _ _ (by decide)]; exact hn
  refine x_aload_n (i := 42) (pc' := 82) rfl rfl rfl rfl ?_
  refine x_sipush (i := 43) (pc' := 85) rfl rfl (by decide) ?_
  refine x_iconst (i := 44) (pc' := 86) rfl rfl ?_
  refine m_callV (i := 45) (pc' := 89) (av := [_, _]) (rest := []) rfl rfl (by decide) lX12_38 (sh76 G) rfl rfl rfl rfl rfl (Nat.le_of_ble_eq_true rfl) (Nat.le_refl _) (Nat.le_refl _) (s_X12_copy (by omega) (by omega) ?_)
  dsimp only [psh]
  refine x_aload_n (i := 46) (pc' := 90) rfl rfl rfl rfl ?_
  refine m_getf (i := 47) (pc' := 93) rfl rfl flX12_274 (sh76 G) rfl rfl ?_
  rw [e]
  exact m_ireturn (i := 48) rfl rfl (hQ)
theorem rd_c {G : GG} {Q : Option Value → Mem → Prop} {x : Mem} {L1 : Option Value} {n : Int} (hs : 0 ≤ x 76 1 ∧ x 76 1 ≤ 5) (hn : mdm x 76 9 = n) (hQ : Q (some (.int (J n))) (mcp (mdm x) 980 0)) : BW G 5 mX12_reads Q 77 [some (.ref (G.2.2.2 76)), L1] [] x := by
  refine x_aload_n (i := 40) (pc' := 78) rfl rfl rfl rfl ?_
  refine m_callV (i := 41) (pc' := 81) (av := []) (rest := []) rfl rfl (by decide) lX12_73 (sh76 G) rfl rfl rfl rfl rfl (Nat.le_of_ble_eq_true rfl) (Nat.le_refl _) (Nat.le_refl _) (s_X12_minds hs ?_)
  dsimp only [psh]
  generalize mdm x = y at *
  exact rd_d hn hQ
theorem mdm_9 (x : Mem) : mdm x 76 9 = x 76 9 := by
  unfold mdm
  rw [stm_ix _ _ _ (by decide), mcp_ne _ _ _ (by decide)]
  unfold md1
  split
  · rw [stm_ix _ _ _ (by decide), md0_ne _ (by decide)]
  · rfl
theorem rd_b {G : GG} {Q : Option Value → Mem → Prop} {x : Mem} {L1 : Option Value} {n : Int} (hs : 0 ≤ x 76 1 ∧ x 76 1 ≤ 5) (hn : x 76 9 = n) (hQ : Q (some (.int (J n))) (mcp (mdm (mcp x 840 0)) 980 0)) : BW G 5 mX12_reads Q 69 [some (.ref (G.2.2.2 76)), L1] [] x := by
  have e : mcp x 840 0 76 = x 76 := mcp_ne _ _ _ (by decide)
  refine x_aload_n (i := 36) (pc' := 70) rfl rfl rfl rfl ?_
  refine x_sipush (i := 37) (pc' := 73) rfl rfl (by decide) ?_
  refine x_iconst (i := 38) (pc' := 74) rfl rfl ?_
  refine m_callV (i := 39) (pc' := 77) (av := [_, _]) (rest := []) rfl rfl (by decide) lX12_38 (sh76 G) rfl rfl rfl rfl rfl (Nat.le_of_ble_eq_true rfl) (Nat.le_refl _) (Nat.le_refl _) (s_X12_copy (by omega) (by omega) ?_)
  dsimp only [psh]
  generalize mcp x 840 0 = y at *
  exact rd_c (by rw [e]; exact hs) (by rw [mdm_9, e]; exact hn) hQ
theorem rd_a {G : GG} {Q : Option Value → Mem → Prop} {x : Mem} {L1 : Option Value} {n : Int} (hs : 0 ≤ x 76 1 ∧ x 76 1 ≤ 5) (hn : x 76 9 = n) (hQ : Q (some (.int (J n))) (rde x)) : BW G 5 mX12_reads Q 61 [some (.ref (G.2.2.2 76)), L1] [] x := by
  unfold rde at hQ
  have e : mcp x 0 980 76 = x 76 := mcp_ne _ _ _ (by decide)
  refine x_aload_n (i := 32) (pc' := 62) rfl rfl rfl rfl ?_
  refine x_iconst (i := 33) (pc' := 63) rfl rfl ?_
  refine x_sipush (i := 34) (pc' := 66) rfl rfl (by decide) ?_
  refine m_callV (i := 35) (pc' := 69) (av := [_, _]) (rest := []) rfl rfl (by decide) lX12_38 (sh76 G) rfl rfl rfl rfl rfl (Nat.le_of_ble_eq_true rfl) (Nat.le_refl _) (Nat.le_refl _) (s_X12_copy (by omega) (by omega) ?_)
  dsimp only [psh]
  generalize mcp x 0 980 = y at *
  exact rd_b (by rw [e]; exact hs) (by rw [e]; exact hn) hQ
theorem rd_f {G : GG} {Q : Option Value → Mem → Prop} {x : Mem} {k : Int} (hQ : Q (some (.int (J (-1000 - k)))) (mcp x 840 0)) : BW G 5 mX12_reads Q 41 [some (.ref (G.2.2.2 76)), some (.int (J (k)))] [] x := by
  refine x_aload_n (i := 22) (pc' := 42) rfl rfl rfl rfl ?_
  refine x_sipush (i := 23) (pc' := 45) rfl rfl (by decide) ?_
  refine x_iconst (i := 24) (pc' := 46) rfl rfl ?_
  refine m_callV (i := 25) (pc' := 49) (av := [_, _]) (rest := []) rfl rfl (by decide) lX12_38 (sh76 G) rfl rfl rfl rfl rfl (Nat.le_of_ble_eq_true rfl) (Nat.le_refl _) (Nat.le_refl _) (s_X12_copy (by omega) (by omega) ?_)
  dsimp only [psh]
  refine x_sipush (i := 26) (pc' := 52) rfl rfl (by decide) ?_
  refine x_iload_n (i := 27) (pc' := 53) rfl rfl rfl rfl ?_
  refine x_isub (i := 28) (pc' := 54) rfl rfl ?_
  exact m_ireturn (i := 29) rfl rfl (hQ)
theorem rd_loop {G : GG} {Q : Option Value → Mem → Prop} {n : Int} (hn60 : n ≤ 60) : ∀ (c : Nat) (k : Int) (x : Mem), k + c = n → 0 ≤ k → x 76 9 = n → (0 ≤ x 76 1 ∧ x 76 1 ≤ 5) → dgd c k x → Q (some (.int (J (rdz n (rdl c k x)).1))) (rdz n (rdl c k x)).2 → BW G 5 mX12_reads Q 25 [some (.ref (G.2.2.2 76)), some (.int (J (k)))] [] x := by
  intro c
  induction c with
  | zero =>
    intro k x h1 h2 h3 hs hg hQ
    unfold rdl rdz at hQ
    rw [if_pos rfl] at hQ
    dsimp only at hQ
    refine x_iload_n (i := 14) (pc' := 26) rfl rfl rfl rfl ?_
    refine x_aload_n (i := 15) (pc' := 27) rfl rfl rfl rfl ?_
    refine m_getf (i := 16) (pc' := 30) rfl rfl flX12_274 (sh76 G) rfl rfl ?_
    refine x_icmpge (i := 17) (pc' := 33) (tgt := 61) rfl rfl (by decide) ⟨by omega, by omega⟩ ⟨by omega, by omega⟩ (fun c1 => ?_) (fun c1 => by exfalso; omega)
    exact rd_a hs h3 hQ
  | succ c ih =>
    intro k x h1 h2 h3 hs hg hQ
    unfold dgd at hg
    unfold rdl at hQ
    by_cases hz : dor x k = 0
    · rw [if_pos hz] at hQ
      unfold rdz at hQ
      rw [if_neg (by dsimp only; omega)] at hQ
      dsimp only at hQ
      refine x_iload_n (i := 14) (pc' := 26) rfl rfl rfl rfl ?_
      refine x_aload_n (i := 15) (pc' := 27) rfl rfl rfl rfl ?_
      refine m_getf (i := 16) (pc' := 30) rfl rfl flX12_274 (sh76 G) rfl rfl ?_
      refine x_icmpge (i := 17) (pc' := 33) (tgt := 61) rfl rfl (by decide) ⟨by omega, by omega⟩ ⟨by omega, by omega⟩ (fun c1 => by exfalso; omega) (fun c1 => ?_)
      refine x_aload_n (i := 18) (pc' := 34) rfl rfl rfl rfl ?_
      refine x_iload_n (i := 19) (pc' := 35) rfl rfl rfl rfl ?_
      refine m_callV (i := 20) (pc' := 38) (av := [_]) (rest := []) rfl rfl (by decide) lX12_286 (sh76 G) rfl rfl rfl rfl rfl (Nat.le_of_ble_eq_true rfl) (Nat.le_refl _) (Nat.le_refl _) (s_X12_does hg.1 ?_)
      dsimp only [psh]
      rw [hz]
      refine x_ifne (i := 21) (pc' := 41) (tgt := 55) rfl rfl (by decide) ⟨by omega, by omega⟩ (fun c2 => ?_) (fun c2 => ?_)
      · first | (exfalso; omega; done) | skip
        all_goals (
          exfalso; omega
          skip)
      · first | (exfalso; omega; done) | skip
        all_goals (
          have ed : dox x k = x := (by unfold dor at hz; unfold dox lax_; unfold lar at hz; (repeat' split at hz) <;> (repeat' split) <;> first | rfl | (exfalso; omega))
          rw [ed]
          exact rd_f hQ
          skip)
    · rw [if_neg hz] at hQ
      have hz1 : dor x k = 1 := (by unfold dor lar at hz ⊢; (repeat' split at hz) <;> (repeat' split) <;> first | rfl | (exfalso; omega))
      refine x_iload_n (i := 14) (pc' := 26) rfl rfl rfl rfl ?_
      refine x_aload_n (i := 15) (pc' := 27) rfl rfl rfl rfl ?_
      refine m_getf (i := 16) (pc' := 30) rfl rfl flX12_274 (sh76 G) rfl rfl ?_
      refine x_icmpge (i := 17) (pc' := 33) (tgt := 61) rfl rfl (by decide) ⟨by omega, by omega⟩ ⟨by omega, by omega⟩ (fun c1 => by exfalso; omega) (fun c1 => ?_)
      refine x_aload_n (i := 18) (pc' := 34) rfl rfl rfl rfl ?_
      refine x_iload_n (i := 19) (pc' := 35) rfl rfl rfl rfl ?_
      refine m_callV (i := 20) (pc' := 38) (av := [_]) (rest := []) rfl rfl (by decide) lX12_286 (sh76 G) rfl rfl rfl rfl rfl (Nat.le_of_ble_eq_true rfl) (Nat.le_refl _) (Nat.le_refl _) (s_X12_does hg.1 ?_)
      dsimp only [psh]
      rw [hz1]
      refine x_ifne (i := 21) (pc' := 41) (tgt := 55) rfl rfl (by decide) ⟨by omega, by omega⟩ (fun c2 => ?_) (fun c2 => ?_)
      · first | (exfalso; omega; done) | skip
        all_goals (
          refine x_iinc (L' := [some _, some _]) (i := 30) (pc' := 58) rfl rfl rfl rfl (by decide) rfl ?_
          refine x_goto (i := 31) (pc' := 25) rfl (by decide) ?_
          exact ih (k + 1) (dox x k) (by omega) (by omega) (by rw [dox_ne _ _ (by decide)]; exact h3) (by rw [dox_ne _ _ (by decide)]; exact hs) (hg.2 hz) hQ
          skip)
      · first | (exfalso; omega; done) | skip
        all_goals (
          exfalso; omega
          skip)
theorem ra_ne {q : Nat} (h : q ≠ 76) (h2 : q ≠ 82) (h3 : q ≠ 83) (h4 : q ≠ 84) : ∀ (k : Nat) (x : Mem), (ra_ k x).2 q = x q := by
  have a1 : ∀ x : Mem, adv x q = x q := fun x => stm_ne _ _ _ h
  have a2 : ∀ x : Mem, blk x q = x q := fun x => stm_ne _ _ _ h
  have a3 : ∀ (x : Mem) (i : Int), rnn x i q = x q := fun x i => by
    unfold rnn
    split
    · rw [stm_ne _ _ _ h4, a1, a1]
    · rw [stm_ne _ _ _ h4, a1]
  have a4 : ∀ (k : Nat) (i : Int) (x : Mem), (rl_ k i x).2 q = x q := by
    intro k
    induction k with
    | zero => intro i x; rfl
    | succ k ih =>
      intro i x
      unfold rl_
      (repeat' split)
      · dsimp only; rw [a1, a1]
      · rw [ih, a2, a3]
      · rfl
  have a5 : ∀ x : Mem, (ro x).2 q = x q := fun x => by
    unfold ro rfn ror fin_
    (repeat' split) <;> try dsimp only
    · rw [a4, a2, a1]
    · rw [stm_ne _ _ _ h, stm_ne _ _ _ h3, stm_ne _ _ _ h2, a1, a4, a2, a1]
    · rw [a4, a2, a1]
  intro k
  induction k with
  | zero => intro x; rfl
  | succ k ih =>
    intro x
    unfold ra_
    (repeat' split) <;> try dsimp only
    · rw [a5]
    · rw [ih, a2, a5]
theorem rdA_ne (m : Mem) {q : Nat} (h : q ≠ 76) (h2 : q ≠ 82) (h3 : q ≠ 83) (h4 : q ≠ 84) : (rdA m).2 q = m q := by
  unfold rdA rb0 blk
  rw [ra_ne h h2 h3 h4, stm_ne _ _ _ h, stm_ne _ _ _ h, stm_ne _ _ _ h]
theorem ra_76 : ∀ (k : Nat) (x : Mem), ∀ j : Int, j ≠ 8 → j ≠ 9 → (ra_ k x).2 76 j = x 76 j := by
  have a1 : ∀ (x : Mem) (j : Int), j ≠ 8 → adv x 76 j = x 76 j := fun x j hj => stm_ix _ _ _ hj
  have a2 : ∀ (x : Mem) (j : Int), j ≠ 8 → blk x 76 j = x 76 j := fun x j hj => stm_ix _ _ _ hj
  have a3 : ∀ (x : Mem) (i j : Int), j ≠ 8 → rnn x i 76 j = x 76 j := fun x i j hj => by
    unfold rnn
    split
    · rw [stm_ne _ _ _ (by decide), a1 _ _ hj, a1 _ _ hj]
    · rw [stm_ne _ _ _ (by decide), a1 _ _ hj]
  have a4 : ∀ (k : Nat) (i : Int) (x : Mem) (j : Int), j ≠ 8 → (rl_ k i x).2 76 j = x 76 j := by
    intro k
    induction k with
    | zero => intro i x j _; rfl
    | succ k ih =>
      intro i x j hj
      unfold rl_
      (repeat' split)
      · dsimp only; rw [a1 _ _ hj, a1 _ _ hj]
      · rw [ih _ _ _ hj, a2 _ _ hj, a3 _ _ _ hj]
      · rfl
  have a5 : ∀ (x : Mem) (j : Int), j ≠ 8 → j ≠ 9 → (ro x).2 76 j = x 76 j := fun x j hj h9 => by
    unfold ro rfn ror fin_
    (repeat' split) <;> try dsimp only
    · rw [a4 _ _ _ _ hj, a2 _ _ hj, a1 _ _ hj]
    · rw [stm_ix _ _ _ h9, stm_ne _ _ _ (by decide), stm_ne _ _ _ (by decide), a1 _ _ hj, a4 _ _ _ _ hj, a2 _ _ hj, a1 _ _ hj]
    · rw [a4 _ _ _ _ hj, a2 _ _ hj, a1 _ _ hj]
  intro k
  induction k with
  | zero => intro x j _ _; rfl
  | succ k ih =>
    intro x j hj h9
    unfold ra_
    (repeat' split) <;> try dsimp only
    · rw [a5 _ _ hj h9]
    · rw [ih _ _ hj h9, a2 _ _ hj, a5 _ _ hj h9]
theorem rdA_76 (m : Mem) {j : Int} (h : j ≠ 8) (h2 : j ≠ 9) : (rdA m).2 76 j = m 76 j := by
  unfold rdA rb0 blk
  rw [ra_76 _ _ _ h h2, stm_ix _ _ _ h, stm_ix _ _ _ h2, stm_ix _ _ _ h]
theorem ra_I : ∀ (k : Nat) (x : Mem), x 76 9 + k = 60 → RO x → TM (ra_ k x).2 ∧ ((ra_ k x).1 = 0 ∨ (ra_ k x).1 = 1) ∧ (¬ (ra_ k x).1 = 0 → RO (ra_ k x).2 ∧ (ra_ k x).2 76 9 ≤ 60)
  | 0, x, h, hx => ⟨hx.1, Or.inr rfl, fun _ => ⟨hx, by unfold ra_; dsimp only; omega⟩⟩
  | k + 1, x, h, hx => by
    unfold ra_
    by_cases hcc : x 76 8 < x 76 4 ∨ x 76 9 = 0
    · rw [if_pos hcc]
      have g1 := hx.1.2.1; have g2 := hx.2
      obtain ⟨o1, o2, o3⟩ := ro_I hx (by omega)
      by_cases hz : (ro x).1 = 0
      · rw [if_pos hz]
        exact ⟨o1, Or.inl rfl, fun hh => absurd rfl hh⟩
      · rw [if_neg hz]
        obtain ⟨o4, o5⟩ := o3 hz
        exact ra_I k _ (by rw [blk_o]; omega) o4.sk
    · rw [if_neg hcc]
      exact ⟨hx.1, Or.inr rfl, fun _ => ⟨hx, by dsimp only; omega⟩⟩
theorem rdA_I {m : Mem} (hM : MR m) (hl : 0 ≤ m 76 4 ∧ m 76 4 ≤ 120) : TM (rdA m).2 ∧ ((rdA m).1 = 0 ∨ (rdA m).1 = 1) ∧ (¬ (rdA m).1 = 0 → RO (rdA m).2 ∧ (rdA m).2 76 9 ≤ 60) := by
  obtain ⟨t1, t2, t3⟩ := rb0_I hM hl
  exact ra_I 60 (rb0 m) (by rw [t3]; rfl) t2
theorem rd_go {G : GG} {Q : Option Value → Mem → Prop} {y : Mem} (h0 : 0 ≤ y 76 9) (h60 : y 76 9 ≤ 60) (hs : 0 ≤ y 76 1 ∧ y 76 1 ≤ 5) (hg : dgd (y 76 9).toNat 0 (mcp y 0 840)) (hQ : Q (some (.int (J (rds_ y).1))) (rds_ y).2) : BW G 5 mX12_reads Q 15 [some (.ref (G.2.2.2 76)), none] [] y := by
  have e : mcp y 0 840 76 = y 76 := mcp_ne _ _ _ (by decide)
  unfold rds_ at hQ
  refine x_aload_n (i := 8) (pc' := 16) rfl rfl rfl rfl ?_
  refine x_iconst (i := 9) (pc' := 17) rfl rfl ?_
  refine x_sipush (i := 10) (pc' := 20) rfl rfl (by decide) ?_
  refine m_callV (i := 11) (pc' := 23) (av := [_, _]) (rest := []) rfl rfl (by decide) lX12_38 (sh76 G) rfl rfl rfl rfl rfl (Nat.le_of_ble_eq_true rfl) (Nat.le_refl _) (Nat.le_refl _) (s_X12_copy (by omega) (by omega) ?_)
  dsimp only [psh]
  refine x_iconst (i := 12) (pc' := 24) rfl rfl ?_
  refine x_istore_n (L' := [some _, some _]) (i := 13) (pc' := 25) rfl rfl rfl rfl (by decide) rfl ?_
  generalize mcp y 0 840 = z at *
  exact rd_loop h60 (y 76 9).toNat 0 z (by omega) (by omega) (by rw [e]) (by rw [e]; exact hs) hg hQ
theorem s_X12_reads {G : GG} {m : Mem} {Q : Option Value → Mem → Prop} (h : GM m) (hg : ¬ (rdA m).1 = 0 → dgd ((rdA m).2 76 9).toNat 0 (mcp (rdA m).2 0 840)) (hQ : Q (some (.int (J ((rdm m).1)))) ((rdm m).2)) : CM G 5 mX12_reads [.ref (G.2.2.2 76)] m Q := by
  refine CM.of dkX12_reads (Or.inl rfl) [some _, none] rfl (Nat.le_of_ble_eq_true rfl) ?_
  obtain ⟨hM, ⟨hn, hc, hv, hst, hw, hwd, hpo⟩, hst5, hle, her⟩ := h
  have hn0 := hn.1; have hn1 := hn.2; have hc0 := hc.1; have hc1 := hc.2
  obtain ⟨o1, o2, o3⟩ := rdA_I hM hle
  have e1 : (rdA m).2 76 1 = m 76 1 := rdA_76 m (by decide) (by decide)
  unfold rdm at hQ
  by_cases hz : (rdA m).1 = 0
  · rw [if_pos hz] at hQ
    refine x_aload_n (i := 0) (pc' := 1) rfl rfl rfl rfl ?_
    refine m_callV (i := 1) (pc' := 4) (av := []) (rest := []) rfl rfl (by decide) lX12_283 (sh76 G) rfl rfl rfl rfl rfl (Nat.le_of_ble_eq_true rfl) (Nat.le_refl _) (Nat.le_refl _) (s_X12_readsAll hM hle ?_)
    dsimp only [psh]
    rw [hz]
    refine x_ifne (i := 2) (pc' := 7) (tgt := 15) rfl rfl (by decide) ⟨by omega, by omega⟩ (fun c1 => by exfalso; omega) (fun c1 => ?_)
    refine x_bipush (i := 3) (pc' := 9) rfl rfl (by decide) ?_
    refine x_aload_n (i := 4) (pc' := 10) rfl rfl rfl rfl ?_
    refine m_getf (i := 5) (pc' := 13) rfl rfl flX12_254 (sh76 G) rfl rfl ?_
    refine x_isub (i := 6) (pc' := 14) rfl rfl ?_
    exact m_ireturn (i := 7) rfl rfl (hQ)
  · rw [if_neg hz] at hQ
    have hz1 : (rdA m).1 = 1 := (by omega)
    obtain ⟨o4, o5⟩ := o3 hz
    refine x_aload_n (i := 0) (pc' := 1) rfl rfl rfl rfl ?_
    refine m_callV (i := 1) (pc' := 4) (av := []) (rest := []) rfl rfl (by decide) lX12_283 (sh76 G) rfl rfl rfl rfl rfl (Nat.le_of_ble_eq_true rfl) (Nat.le_refl _) (Nat.le_refl _) (s_X12_readsAll hM hle ?_)
    dsimp only [psh]
    rw [hz1]
    refine x_ifne (i := 2) (pc' := 7) (tgt := 15) rfl rfl (by decide) ⟨by omega, by omega⟩ (fun c1 => ?_) (fun c1 => by exfalso; omega)
    exact rd_go o4.2.1 o5 (by rw [e1]; exact hst5) (hg hz) hQ
