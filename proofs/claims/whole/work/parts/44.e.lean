def WDn (m : Mem) : Prop := ∀ i, 0 ≤ i → i < m 77 1 → (0 ≤ m 77 (82 + 3 * i + 0) ∧ m 77 (82 + 3 * i + 0) < 16) ∧ (-1 ≤ m 77 (82 + 3 * i + 1) ∧ m 77 (82 + 3 * i + 1) ≤ 5) ∧ (-1 ≤ m 77 (82 + 3 * i + 2) ∧ m 77 (82 + 3 * i + 2) ≤ 5)
theorem WDm.n {m : Mem} (h : WDm m) (hn : NM m) : WDn m := fun i a b => by have := h i a b; have := hn.2; omega
def swm (m : Mem) (i : Int) : Int := m 77 (2 + 5 * m 77 (82 + 3 * i + 0) + 4)
def atm (m : Mem) (s n : Int) : Int := it (fun i x => if swm m i = 1 ∧ m 77 (82 + 3 * i + 2) = s then m 77 (82 + 3 * i + 0) else x) 0 (mn n (m 77 1)).toNat (-1)
def mnt (m : Mem) (i w : Int) : Int := if m 77 (82 + 3 * i + w) = -1 then -1 else atm m (m 77 (82 + 3 * i + w)) i
def vnm (m : Mem) (i : Int) : Int := if swm m i = 2 then (if mnt m i 2 = -1 then 1 else 0) else if swm m i = 3 then (if (¬ m 77 (82 + 3 * i + 1) = -1 ∧ mnt m i 1 = -1) ∨ (¬ m 77 (82 + 3 * i + 2) = -1 ∧ mnt m i 2 = -1) then 1 else 0) else 0
def clm (m : Mem) (i : Int) : Int := it (fun k x => x + (if swm m k = 3 then 1 else 0)) 0 i.toNat 0
def wim (m : Mem) (i w : Int) : Int := if w = 3 then clm m i else if w = 4 then vnm m i else if w = 5 then (if swm m i = 2 then mnt m i 2 else if swm m i = 3 then mnt m i 1 else -1) else if w = 6 then (if swm m i = 3 then mnt m i 2 else -1) else m 77 (82 + 3 * i + w)
def rkm (m : Mem) (i : Int) : Int := if swm m i = 0 then 0 else if swm m i = 3 then 2 else 1
theorem atm_rg {m : Mem} (hM : MR m) (s n : Int) : rg (atm m s n) := by
  refine it_I (I := fun x : Int => rg x) _ _ _ (fun i y _ _ hy => ?_) (by decide)
  split
  · exact hM _ _
  · exact hy
theorem mnt_rg {m : Mem} (hM : MR m) (i w : Int) : rg (mnt m i w) := by
  unfold mnt
  split
  · decide
  · exact atm_rg hM _ _
theorem vnm_01 (m : Mem) (i : Int) : vnm m i = 0 ∨ vnm m i = 1 := by unfold vnm; (repeat' split) <;> first | exact Or.inl rfl | exact Or.inr rfl
theorem clm_le (m : Mem) (i : Int) : 0 ≤ clm m i ∧ clm m i ≤ i.toNat := by
  have := it_Ij (f := fun k x => x + (if swm m k = 3 then 1 else 0)) (fun j x => 0 ≤ x ∧ x ≤ j) i.toNat 0 0 (fun i y h1 h2 h3 => by split <;> omega) (by decide)
  unfold clm
  omega
theorem rkm_le (m : Mem) (i : Int) : 0 ≤ rkm m i ∧ rkm m i ≤ 2 := by unfold rkm; (repeat' split) <;> omega
theorem s_X12_said {G : GG} {m : Mem} {Q : Option Value → Mem → Prop} {a b : Int} (ha : 0 ≤ a ∧ a ≤ 15) (hb : 0 ≤ b ∧ b ≤ 2) (hQ : Q (some (.int (J (m 77 (82 + 3 * a + b))))) m) : CM G 0 mX12_said [.ref (G.2.2.2 76), .int (J (a)), .int (J (b))] m Q := by
  refine CM.of dkX12_said (Or.inl rfl) [some _, some _, some _] rfl (Nat.le_of_ble_eq_true rfl) ?_
  refine x_aload_n (i := 0) (pc' := 1) rfl rfl rfl rfl ?_
  refine m_getf (i := 1) (pc' := 4) rfl rfl flX12_7 (sh76 G) rfl rfl ?_
  refine x_bipush (i := 2) (pc' := 6) rfl rfl (by decide) ?_
  refine x_iconst (i := 3) (pc' := 7) rfl rfl ?_
  refine x_iload_n (i := 4) (pc' := 8) rfl rfl rfl rfl ?_
  refine x_imul (i := 5) (pc' := 9) rfl rfl ?_
  refine x_iadd (i := 6) (pc' := 10) rfl rfl ?_
  refine x_iload_n (i := 7) (pc' := 11) rfl rfl rfl rfl ?_
  refine x_iadd (i := 8) (pc' := 12) rfl rfl ?_
  refine m_iald (i := 9) (pc' := 13) rfl rfl (sh77 G) (by decide) ⟨by omega, by omega⟩ ?_
  exact m_ireturn (i := 10) rfl rfl (hQ)
theorem s_X12_sortOf {G : GG} {m : Mem} {Q : Option Value → Mem → Prop} {a : Int} (hc : CMd m) (hwd : WDn m) (ha : 0 ≤ a ∧ a < m 77 1) (hQ : Q (some (.int (J (swm m a)))) m) : CM G 1 mX12_sortOf [.ref (G.2.2.2 76), .int (J (a))] m Q := by
  refine CM.of dkX12_sortOf (Or.inl rfl) [some _, some _] rfl (Nat.le_of_ble_eq_true rfl) ?_
  have hc0 := hc.1; have hc1 := hc.2
  have hw := hwd a (by omega) (by omega)
  refine x_aload_n (i := 0) (pc' := 1) rfl rfl rfl rfl ?_
  refine x_aload_n (i := 1) (pc' := 2) rfl rfl rfl rfl ?_
  refine x_iload_n (i := 2) (pc' := 3) rfl rfl rfl rfl ?_
  refine x_iconst (i := 3) (pc' := 4) rfl rfl ?_
  refine m_callV (i := 4) (pc' := 7) (av := [_, _]) (rest := [_]) rfl rfl (by decide) lX12_171 (sh76 G) rfl rfl rfl rfl rfl (Nat.le_of_ble_eq_true rfl) (Nat.le_refl _) (Nat.le_refl _) (s_X12_said (by omega) (by omega) ?_)
  dsimp only [psh]
  refine x_iconst (i := 5) (pc' := 8) rfl rfl ?_
  refine m_callV (i := 6) (pc' := 11) (av := [_, _]) (rest := []) rfl rfl (by decide) lX12_52 (sh76 G) rfl rfl rfl rfl rfl (Nat.le_of_ble_eq_true rfl) (Nat.le_refl _) (Nat.le_refl _) (s_X12_part (by omega) (by omega) ?_)
  dsimp only [psh]
  exact m_ireturn (i := 7) rfl rfl (hQ)
theorem s_X12_isWord {G : GG} {m : Mem} {Q : Option Value → Mem → Prop} {a : Int} (hc : CMd m) (ha : rg a) (hQ : Q (some (.int (J (if 0 ≤ a ∧ a < m 77 1 then 1 else 0)))) m) : CM G 1 mX12_isWord [.ref (G.2.2.2 76), .int (J (a))] m Q := by
  refine CM.of dkX12_isWord (Or.inl rfl) [some _, some _] rfl (Nat.le_of_ble_eq_true rfl) ?_
  have hc0 := hc.1; have hc1 := hc.2
  refine x_iload_n (i := 0) (pc' := 1) rfl rfl rfl rfl ?_
  refine x_i2l (i := 1) (pc' := 2) rfl rfl (by omega) ?_
  refine x_lconst (a := 0) (i := 2) (pc' := 3) rfl rfl rfl ?_
  refine x_aload_n (i := 3) (pc' := 4) rfl rfl rfl rfl ?_
  refine m_getf (i := 4) (pc' := 7) rfl rfl flX12_7 (sh76 G) rfl rfl ?_
  refine x_iconst (i := 5) (pc' := 8) rfl rfl ?_
  refine m_iald (i := 6) (pc' := 9) rfl rfl (sh77 G) (by decide) ⟨by omega, by omega⟩ ?_
  refine x_iconst (i := 7) (pc' := 10) rfl rfl ?_
  refine x_isub (i := 8) (pc' := 11) rfl rfl ?_
  refine x_i2l (i := 9) (pc' := 12) rfl rfl (by omega) ?_
  refine m_callS (i := 10) (pc' := 15) (av := [_, _, _]) (rest := []) rfl rfl (by decide) lX12_42 rfl rfl (Nat.le_of_ble_eq_true rfl) (Nat.le_refl _) (Nat.le_refl _) (s_X12_in (by omega) (by omega) (by omega) ?_)
  dsimp only [psh]
  exact m_zreturn (i := 11) rfl rfl (by (repeat' split) <;> omega) (by (repeat' split at hQ) <;> (repeat' split at *) <;> first | exact hQ | (exfalso; omega))
theorem s_X12_isSpot {G : GG} {m : Mem} {Q : Option Value → Mem → Prop} {a : Int} (ha : rg a) (hQ : Q (some (.int (J (if 0 ≤ a ∧ a ≤ 5 then 1 else 0)))) m) : CM G 1 mX12_isSpot [.int (J (a))] m Q := by
  refine CM.of dkX12_isSpot (Or.inl rfl) [some _] rfl (Nat.le_of_ble_eq_true rfl) ?_
  refine x_iload_n (i := 0) (pc' := 1) rfl rfl rfl rfl ?_
  refine x_i2l (i := 1) (pc' := 2) rfl rfl (by omega) ?_
  refine x_lconst (a := 0) (i := 2) (pc' := 3) rfl rfl rfl ?_
  refine x_ldc2 (i := 3) (pc' := 6) rfl rfl kX12_93 ?_
  refine m_callS (i := 4) (pc' := 9) (av := [_, _, _]) (rest := []) rfl rfl (by decide) lX12_42 rfl rfl (Nat.le_of_ble_eq_true rfl) (Nat.le_refl _) (Nat.le_refl _) (s_X12_in (by omega) (by omega) (by omega) ?_)
  dsimp only [psh]
  exact m_zreturn (i := 5) rfl rfl (by (repeat' split) <;> omega) (hQ)
theorem mn_le {a b : Int} (ha : 0 ≤ a) (hb : 0 ≤ b) : 0 ≤ mn a b ∧ mn a b ≤ a ∧ mn a b ≤ b := by unfold mn; split <;> omega
theorem s_X12_atSpot {G : GG} {m : Mem} {Q : Option Value → Mem → Prop} {a b : Int} (hM : MR m) (hc : CMd m) (hwd : WDn m) (ra : rg a) (hb : 0 ≤ b ∧ b ≤ 16) (hQ : Q (some (.int (J (atm m a b)))) m) : CM G 2 mX12_atSpot [.ref (G.2.2.2 76), .int (J (a)), .int (J (b))] m Q := by
  refine CM.of dkX12_atSpot (Or.inl rfl) [some _, some _, some _, none, none] rfl (Nat.le_of_ble_eq_true rfl) ?_
  have hc0 := hc.1; have hc1 := hc.2
  have hmn := mn_le hb.1 hc0
  refine x_iconst (i := 0) (pc' := 1) rfl rfl ?_
  refine x_istore_n (L' := [some _, some _, some _, some _, none]) (i := 1) (pc' := 2) rfl rfl rfl rfl (by decide) rfl ?_
  refine x_iconst (i := 2) (pc' := 3) rfl rfl ?_
  refine x_istore (L' := [some _, some _, some _, some _, some _]) (i := 3) (pc' := 5) rfl rfl rfl (by decide) rfl ?_
  skip
  refine up_ind1 (P := fun (j : Int) (x : Int) => BW G 2 mX12_atSpot Q 5 [some (.ref (G.2.2.2 76)), some (.int (J (a))), some (.int (J (b))), some (.int (J (x))), some (.int (J (j)))] [] m) (fun (j : Int) (x : Int) => if swm m j = 1 ∧ m 77 (82 + 3 * j + 2) = a then m 77 (82 + 3 * j + 0) else x) (fun (j : Int) (x : Int) => rg x) (mn b (m 77 1)) (0) (-1) (by omega) (by decide) (fun j x hj0 hj hi => by split <;> first | exact hM _ _ | exact hi) (fun j x hj0 hj hi hk => ?_) (fun hi => ?_)
  · have k6 : rg (swm m j) := hM _ _
    refine x_iload (i := 4) (pc' := 7) rfl rfl rfl ?_
    refine x_iload_n (i := 5) (pc' := 8) rfl rfl rfl rfl ?_
    refine x_icmpge (i := 6) (pc' := 11) (tgt := 61) rfl rfl (by decide) (by first | omega | exact hM _ _) (by first | omega | exact hM _ _) (fun c1 => by exfalso; omega) (fun c1 => ?_)
    refine x_iload (i := 7) (pc' := 13) rfl rfl rfl ?_
    refine x_aload_n (i := 8) (pc' := 14) rfl rfl rfl rfl ?_
    refine m_getf (i := 9) (pc' := 17) rfl rfl flX12_7 (sh76 G) rfl rfl ?_
    refine x_iconst (i := 10) (pc' := 18) rfl rfl ?_
    refine m_iald (i := 11) (pc' := 19) rfl rfl (sh77 G) (by decide) ⟨by omega, by omega⟩ ?_
    refine x_icmpge (i := 12) (pc' := 22) (tgt := 61) rfl rfl (by decide) (by first | omega | exact hM _ _) (by first | omega | exact hM _ _) (fun c2 => by exfalso; omega) (fun c2 => ?_)
    refine x_aload_n (i := 13) (pc' := 23) rfl rfl rfl rfl ?_
    refine x_iload (i := 14) (pc' := 25) rfl rfl rfl ?_
    refine m_callV (i := 15) (pc' := 28) (av := [_]) (rest := []) rfl rfl (by decide) lX12_189 (sh76 G) rfl rfl rfl rfl rfl (Nat.le_of_ble_eq_true rfl) (Nat.le_refl _) (Nat.le_refl _) (s_X12_sortOf hc hwd (by omega) ?_)
    dsimp only [psh]
    refine x_iconst (i := 16) (pc' := 29) rfl rfl ?_
    refine x_icmpne (i := 17) (pc' := 32) (tgt := 53) rfl rfl (by decide) (by first | omega | exact hM _ _) (by first | omega | exact hM _ _) (fun c3 => ?_) (fun c3 => ?_)
    · skip
      refine x_iload_n (i := 29) (pc' := 54) rfl rfl rfl rfl ?_
      refine x_istore_n (L' := [some _, some _, some _, some _, some _]) (i := 30) (pc' := 55) rfl rfl rfl rfl (by decide) rfl ?_
      refine x_iinc (L' := [some _, some _, some _, some _, some _]) (i := 31) (pc' := 58) rfl rfl rfl rfl (by decide) rfl ?_
      refine x_goto (i := 32) (pc' := 5) rfl (by decide) ?_
      (first | exact hk | (refine AW.le ?_ hk; simp [lvle]; done) | ((repeat' split at hk) <;> first | exact hk | (refine AW.le ?_ hk; simp [lvle]; done) | (exfalso; omega)))
    · skip
      refine x_aload_n (i := 18) (pc' := 33) rfl rfl rfl rfl ?_
      refine x_iload (i := 19) (pc' := 35) rfl rfl rfl ?_
      refine x_iconst (i := 20) (pc' := 36) rfl rfl ?_
      refine m_callV (i := 21) (pc' := 39) (av := [_, _]) (rest := []) rfl rfl (by decide) lX12_171 (sh76 G) rfl rfl rfl rfl rfl (Nat.le_of_ble_eq_true rfl) (Nat.le_refl _) (Nat.le_refl _) (s_X12_said (by omega) (by omega) ?_)
      dsimp only [psh]
      refine x_iload_n (i := 22) (pc' := 40) rfl rfl rfl rfl ?_
      refine x_icmpne (i := 23) (pc' := 43) (tgt := 53) rfl rfl (by decide) (by first | omega | exact hM _ _) (by first | omega | exact hM _ _) (fun c4 => ?_) (fun c4 => ?_)
      · skip
        refine x_iload_n (i := 29) (pc' := 54) rfl rfl rfl rfl ?_
        refine x_istore_n (L' := [some _, some _, some _, some _, some _]) (i := 30) (pc' := 55) rfl rfl rfl rfl (by decide) rfl ?_
        refine x_iinc (L' := [some _, some _, some _, some _, some _]) (i := 31) (pc' := 58) rfl rfl rfl rfl (by decide) rfl ?_
        refine x_goto (i := 32) (pc' := 5) rfl (by decide) ?_
        (first | exact hk | (refine AW.le ?_ hk; simp [lvle]; done) | ((repeat' split at hk) <;> first | exact hk | (refine AW.le ?_ hk; simp [lvle]; done) | (exfalso; omega)))
      · skip
        refine x_aload_n (i := 24) (pc' := 44) rfl rfl rfl rfl ?_
        refine x_iload (i := 25) (pc' := 46) rfl rfl rfl ?_
        refine x_iconst (i := 26) (pc' := 47) rfl rfl ?_
        refine m_callV (i := 27) (pc' := 50) (av := [_, _]) (rest := []) rfl rfl (by decide) lX12_171 (sh76 G) rfl rfl rfl rfl rfl (Nat.le_of_ble_eq_true rfl) (Nat.le_refl _) (Nat.le_refl _) (s_X12_said (by omega) (by omega) ?_)
        dsimp only [psh]
        refine x_goto (i := 28) (pc' := 54) rfl (by decide) ?_
        refine x_istore_n (L' := [some _, some _, some _, some _, some _]) (i := 30) (pc' := 55) rfl rfl rfl rfl (by decide) rfl ?_
        refine x_iinc (L' := [some _, some _, some _, some _, some _]) (i := 31) (pc' := 58) rfl rfl rfl rfl (by decide) rfl ?_
        refine x_goto (i := 32) (pc' := 5) rfl (by decide) ?_
        (first | exact hk | (refine AW.le ?_ hk; simp [lvle]; done) | ((repeat' split at hk) <;> first | exact hk | (refine AW.le ?_ hk; simp [lvle]; done) | (exfalso; omega)))
  · have hmx : mn b (m 77 1) = b ∨ mn b (m 77 1) = m 77 1 := (by unfold mn; split <;> omega)
    refine x_iload (i := 4) (pc' := 7) rfl rfl rfl ?_
    refine x_iload_n (i := 5) (pc' := 8) rfl rfl rfl rfl ?_
    refine x_icmpge (i := 6) (pc' := 11) (tgt := 61) rfl rfl (by decide) ⟨by omega, by omega⟩ ⟨by omega, by omega⟩ (fun c1 => ?_) (fun c1 => ?_)
    · first | (exfalso; omega; done) | skip
      all_goals (
        refine x_iload_n (i := 33) (pc' := 62) rfl rfl rfl rfl ?_
        exact m_ireturn (i := 34) rfl rfl (by rw [Int.sub_zero]; exact hQ)
        skip)
    · first | (exfalso; omega; done) | skip
      all_goals (
        refine x_iload (i := 7) (pc' := 13) rfl rfl rfl ?_
        refine x_aload_n (i := 8) (pc' := 14) rfl rfl rfl rfl ?_
        refine m_getf (i := 9) (pc' := 17) rfl rfl flX12_7 (sh76 G) rfl rfl ?_
        refine x_iconst (i := 10) (pc' := 18) rfl rfl ?_
        refine m_iald (i := 11) (pc' := 19) rfl rfl (sh77 G) (by decide) ⟨by omega, by omega⟩ ?_
        refine x_icmpge (i := 12) (pc' := 22) (tgt := 61) rfl rfl (by decide) ⟨by omega, by omega⟩ ⟨by omega, by omega⟩ (fun c2 => ?_) (fun c2 => ?_)
        · first | (exfalso; omega; done) | skip
          all_goals (
            refine x_iload_n (i := 33) (pc' := 62) rfl rfl rfl rfl ?_
            exact m_ireturn (i := 34) rfl rfl (by rw [Int.sub_zero]; exact hQ)
            skip)
        · first | (exfalso; omega; done) | skip
          all_goals (
            exfalso; omega
            skip)
        skip)
theorem s_X12_meant {G : GG} {m : Mem} {Q : Option Value → Mem → Prop} {a b : Int} (hM : MR m) (hc : CMd m) (hwd : WDn m) (ha : 0 ≤ a ∧ a < m 77 1) (hb : 1 ≤ b ∧ b ≤ 2) (hQ : Q (some (.int (J (mnt m a b)))) m) : CM G 3 mX12_meant [.ref (G.2.2.2 76), .int (J (a)), .int (J (b))] m Q := by
  refine CM.of dkX12_meant (Or.inl rfl) [some _, some _, some _, none] rfl (Nat.le_of_ble_eq_true rfl) ?_
  have hc0 := hc.1; have hc1 := hc.2
  refine x_aload_n (i := 0) (pc' := 1) rfl rfl rfl rfl ?_
  refine x_iload_n (i := 1) (pc' := 2) rfl rfl rfl rfl ?_
  refine x_iload_n (i := 2) (pc' := 3) rfl rfl rfl rfl ?_
  refine m_callV (i := 3) (pc' := 6) (av := [_, _]) (rest := []) rfl rfl (by decide) lX12_171 (sh76 G) rfl rfl rfl rfl rfl (Nat.le_of_ble_eq_true rfl) (Nat.le_refl _) (Nat.le_refl _) (s_X12_said (by omega) (by omega) ?_)
  dsimp only [psh]
  refine x_istore_n (L' := [some _, some _, some _, some _]) (i := 4) (pc' := 7) rfl rfl rfl rfl (by decide) rfl ?_
  refine x_iload_n (i := 5) (pc' := 8) rfl rfl rfl rfl ?_
  refine x_iconst (i := 6) (pc' := 9) rfl rfl ?_
  refine x_icmpne (i := 7) (pc' := 12) (tgt := 16) rfl rfl (by decide) (by first | omega | exact hM _ _) (by first | omega | exact hM _ _) (fun c1 => ?_) (fun c1 => ?_)
  · skip
    refine x_aload_n (i := 10) (pc' := 17) rfl rfl rfl rfl ?_
    refine x_iload_n (i := 11) (pc' := 18) rfl rfl rfl rfl ?_
    refine x_iload_n (i := 12) (pc' := 19) rfl rfl rfl rfl ?_
    refine m_callV (i := 13) (pc' := 22) (av := [_, _]) (rest := []) rfl rfl (by decide) lX12_192 (sh76 G) rfl rfl rfl rfl rfl (Nat.le_of_ble_eq_true rfl) (Nat.le_refl _) (Nat.le_refl _) (s_X12_atSpot hM hc hwd (hM _ _) (by omega) ?_)
    dsimp only [psh]
    exact m_ireturn (i := 14) rfl rfl (by unfold mnt at hQ; (repeat' split at hQ) <;> first | exact hQ | (exfalso; omega))
  · skip
    refine x_iconst (i := 8) (pc' := 13) rfl rfl ?_
    refine x_goto (i := 9) (pc' := 22) rfl (by decide) ?_
    exact m_ireturn (i := 14) rfl rfl (by unfold mnt at hQ; (repeat' split at hQ) <;> first | exact hQ | (exfalso; omega))
theorem s_X12_isVain {G : GG} {m : Mem} {Q : Option Value → Mem → Prop} {a : Int} (hM : MR m) (hc : CMd m) (hwd : WDn m) (ha : 0 ≤ a ∧ a < m 77 1) (hQ : Q (some (.int (J (vnm m a)))) m) : CM G 4 mX12_isVain [.ref (G.2.2.2 76), .int (J (a))] m Q := by
  refine CM.of dkX12_isVain (Or.inl rfl) [some _, some _] rfl (Nat.le_of_ble_eq_true rfl) ?_
  have hc0 := hc.1; have hc1 := hc.2
  have k6 : rg (swm m a) := hM _ _
  have m1 := mnt_rg hM a 1; have m2 := mnt_rg hM a 2
  have w1 := hM 77 (82 + 3 * a + 1); have w2 := hM 77 (82 + 3 * a + 2)
  refine x_aload_n (i := 0) (pc' := 1) rfl rfl rfl rfl ?_
  refine x_iload_n (i := 1) (pc' := 2) rfl rfl rfl rfl ?_
  refine m_callV (i := 2) (pc' := 5) (av := [_]) (rest := []) rfl rfl (by decide) lX12_189 (sh76 G) rfl rfl rfl rfl rfl (Nat.le_of_ble_eq_true rfl) (Nat.le_refl _) (Nat.le_refl _) (s_X12_sortOf hc hwd (by omega) ?_)
  dsimp only [psh]
  rcases (by omega : (swm m a) = 2 ∨ (swm m a) = 3 ∨ (¬ (swm m a) = 2 ∧ ¬ (swm m a) = 3)) with c1 | c1 | c1
  · first | (exfalso; omega; done) | skip
    all_goals (
      refine x_look (i := 3) (off := 27) (tgt := 32) rfl (by decide) ⟨by omega, by omega⟩ (by rw [c1]; rfl) (by decide) ?_
      refine x_aload_n (i := 4) (pc' := 33) rfl rfl rfl rfl ?_
      refine x_iload_n (i := 5) (pc' := 34) rfl rfl rfl rfl ?_
      refine x_iconst (i := 6) (pc' := 35) rfl rfl ?_
      refine m_callV (i := 7) (pc' := 38) (av := [_, _]) (rest := []) rfl rfl (by decide) lX12_195 (sh76 G) rfl rfl rfl rfl rfl (Nat.le_of_ble_eq_true rfl) (Nat.le_refl _) (Nat.le_refl _) (s_X12_meant hM hc hwd (by omega) (by omega) ?_)
      dsimp only [psh]
      refine x_iconst (i := 8) (pc' := 39) rfl rfl ?_
      refine x_icmpne (i := 9) (pc' := 42) (tgt := 46) rfl rfl (by decide) ⟨by omega, by omega⟩ ⟨by omega, by omega⟩ (fun c2 => ?_) (fun c2 => ?_)
      · skip
        refine x_iconst (i := 12) (pc' := 47) rfl rfl ?_
        exact m_zreturn (i := 13) rfl rfl (by omega) (by unfold vnm at hQ; (repeat' split at hQ) <;> first | exact hQ | (exfalso; omega))
      · skip
        refine x_iconst (i := 10) (pc' := 43) rfl rfl ?_
        refine x_goto (i := 11) (pc' := 47) rfl (by decide) ?_
        exact m_zreturn (i := 13) rfl rfl (by omega) (by unfold vnm at hQ; (repeat' split at hQ) <;> first | exact hQ | (exfalso; omega))
      skip)
  · first | (exfalso; omega; done) | skip
    all_goals (
      refine x_look (i := 3) (off := 43) (tgt := 48) rfl (by decide) ⟨by omega, by omega⟩ (by rw [c1]; rfl) (by decide) ?_
      refine x_aload_n (i := 14) (pc' := 49) rfl rfl rfl rfl ?_
      refine x_iload_n (i := 15) (pc' := 50) rfl rfl rfl rfl ?_
      refine x_iconst (i := 16) (pc' := 51) rfl rfl ?_
      refine m_callV (i := 17) (pc' := 54) (av := [_, _]) (rest := []) rfl rfl (by decide) lX12_171 (sh76 G) rfl rfl rfl rfl rfl (Nat.le_of_ble_eq_true rfl) (Nat.le_refl _) (Nat.le_refl _) (s_X12_said (by omega) (by omega) ?_)
      dsimp only [psh]
      refine x_iconst (i := 18) (pc' := 55) rfl rfl ?_
      refine x_icmpeq (i := 19) (pc' := 58) (tgt := 68) rfl rfl (by decide) ⟨by omega, by omega⟩ ⟨by omega, by omega⟩ (fun c3 => ?_) (fun c3 => ?_)
      · skip
        refine x_aload_n (i := 26) (pc' := 69) rfl rfl rfl rfl ?_
        refine x_iload_n (i := 27) (pc' := 70) rfl rfl rfl rfl ?_
        refine x_iconst (i := 28) (pc' := 71) rfl rfl ?_
        refine m_callV (i := 29) (pc' := 74) (av := [_, _]) (rest := []) rfl rfl (by decide) lX12_171 (sh76 G) rfl rfl rfl rfl rfl (Nat.le_of_ble_eq_true rfl) (Nat.le_refl _) (Nat.le_refl _) (s_X12_said (by omega) (by omega) ?_)
        dsimp only [psh]
        refine x_iconst (i := 30) (pc' := 75) rfl rfl ?_
        refine x_icmpeq (i := 31) (pc' := 78) (tgt := 92) rfl rfl (by decide) ⟨by omega, by omega⟩ ⟨by omega, by omega⟩ (fun c4 => ?_) (fun c4 => ?_)
        · skip
          refine x_iconst (i := 40) (pc' := 93) rfl rfl ?_
          exact m_zreturn (i := 41) rfl rfl (by omega) (by unfold vnm at hQ; (repeat' split at hQ) <;> first | exact hQ | (exfalso; omega))
        · skip
          refine x_aload_n (i := 32) (pc' := 79) rfl rfl rfl rfl ?_
          refine x_iload_n (i := 33) (pc' := 80) rfl rfl rfl rfl ?_
          refine x_iconst (i := 34) (pc' := 81) rfl rfl ?_
          refine m_callV (i := 35) (pc' := 84) (av := [_, _]) (rest := []) rfl rfl (by decide) lX12_195 (sh76 G) rfl rfl rfl rfl rfl (Nat.le_of_ble_eq_true rfl) (Nat.le_refl _) (Nat.le_refl _) (s_X12_meant hM hc hwd (by omega) (by omega) ?_)
          dsimp only [psh]
          refine x_iconst (i := 36) (pc' := 85) rfl rfl ?_
          refine x_icmpne (i := 37) (pc' := 88) (tgt := 92) rfl rfl (by decide) ⟨by omega, by omega⟩ ⟨by omega, by omega⟩ (fun c5 => ?_) (fun c5 => ?_)
          · skip
            refine x_iconst (i := 40) (pc' := 93) rfl rfl ?_
            exact m_zreturn (i := 41) rfl rfl (by omega) (by unfold vnm at hQ; (repeat' split at hQ) <;> first | exact hQ | (exfalso; omega))
          · skip
            refine x_iconst (i := 38) (pc' := 89) rfl rfl ?_
            refine x_goto (i := 39) (pc' := 93) rfl (by decide) ?_
            exact m_zreturn (i := 41) rfl rfl (by omega) (by unfold vnm at hQ; (repeat' split at hQ) <;> first | exact hQ | (exfalso; omega))
      · skip
        refine x_aload_n (i := 20) (pc' := 59) rfl rfl rfl rfl ?_
        refine x_iload_n (i := 21) (pc' := 60) rfl rfl rfl rfl ?_
        refine x_iconst (i := 22) (pc' := 61) rfl rfl ?_
        refine m_callV (i := 23) (pc' := 64) (av := [_, _]) (rest := []) rfl rfl (by decide) lX12_195 (sh76 G) rfl rfl rfl rfl rfl (Nat.le_of_ble_eq_true rfl) (Nat.le_refl _) (Nat.le_refl _) (s_X12_meant hM hc hwd (by omega) (by omega) ?_)
        dsimp only [psh]
        refine x_iconst (i := 24) (pc' := 65) rfl rfl ?_
        refine x_icmpeq (i := 25) (pc' := 68) (tgt := 88) rfl rfl (by decide) ⟨by omega, by omega⟩ ⟨by omega, by omega⟩ (fun c6 => ?_) (fun c6 => ?_)
        · skip
          refine x_iconst (i := 38) (pc' := 89) rfl rfl ?_
          refine x_goto (i := 39) (pc' := 93) rfl (by decide) ?_
          exact m_zreturn (i := 41) rfl rfl (by omega) (by unfold vnm at hQ; (repeat' split at hQ) <;> first | exact hQ | (exfalso; omega))
        · skip
          refine x_aload_n (i := 26) (pc' := 69) rfl rfl rfl rfl ?_
          refine x_iload_n (i := 27) (pc' := 70) rfl rfl rfl rfl ?_
          refine x_iconst (i := 28) (pc' := 71) rfl rfl ?_
          refine m_callV (i := 29) (pc' := 74) (av := [_, _]) (rest := []) rfl rfl (by decide) lX12_171 (sh76 G) rfl rfl rfl rfl rfl (Nat.le_of_ble_eq_true rfl) (Nat.le_refl _) (Nat.le_refl _) (s_X12_said (by omega) (by omega) ?_)
          dsimp only [psh]
          refine x_iconst (i := 30) (pc' := 75) rfl rfl ?_
          refine x_icmpeq (i := 31) (pc' := 78) (tgt := 92) rfl rfl (by decide) ⟨by omega, by omega⟩ ⟨by omega, by omega⟩ (fun c7 => ?_) (fun c7 => ?_)
          · skip
            refine x_iconst (i := 40) (pc' := 93) rfl rfl ?_
            exact m_zreturn (i := 41) rfl rfl (by omega) (by unfold vnm at hQ; (repeat' split at hQ) <;> first | exact hQ | (exfalso; omega))
          · skip
            refine x_aload_n (i := 32) (pc' := 79) rfl rfl rfl rfl ?_
            refine x_iload_n (i := 33) (pc' := 80) rfl rfl rfl rfl ?_
            refine x_iconst (i := 34) (pc' := 81) rfl rfl ?_
            refine m_callV (i := 35) (pc' := 84) (av := [_, _]) (rest := []) rfl rfl (by decide) lX12_195 (sh76 G) rfl rfl rfl rfl rfl (Nat.le_of_ble_eq_true rfl) (Nat.le_refl _) (Nat.le_refl _) (s_X12_meant hM hc hwd (by omega) (by omega) ?_)
            dsimp only [psh]
            refine x_iconst (i := 36) (pc' := 85) rfl rfl ?_
            refine x_icmpne (i := 37) (pc' := 88) (tgt := 92) rfl rfl (by decide) ⟨by omega, by omega⟩ ⟨by omega, by omega⟩ (fun c8 => ?_) (fun c8 => ?_)
            · skip
              refine x_iconst (i := 40) (pc' := 93) rfl rfl ?_
              exact m_zreturn (i := 41) rfl rfl (by omega) (by unfold vnm at hQ; (repeat' split at hQ) <;> first | exact hQ | (exfalso; omega))
            · skip
              refine x_iconst (i := 38) (pc' := 89) rfl rfl ?_
              refine x_goto (i := 39) (pc' := 93) rfl (by decide) ?_
              exact m_zreturn (i := 41) rfl rfl (by omega) (by unfold vnm at hQ; (repeat' split at hQ) <;> first | exact hQ | (exfalso; omega))
      skip)
  · first | (exfalso; omega; done) | skip
    all_goals (
      refine x_look (i := 3) (off := 89) (tgt := 94) rfl (by decide) ⟨by omega, by omega⟩ (by simp [Op.lookupswitch.offset]; (repeat' split) <;> omega) (by decide) ?_
      refine x_iconst (i := 42) (pc' := 95) rfl rfl ?_
      exact m_zreturn (i := 43) rfl rfl (by omega) (by unfold vnm at hQ; (repeat' split at hQ) <;> first | exact hQ | (exfalso; omega))
      skip)
theorem s_X12_clauseOf {G : GG} {m : Mem} {Q : Option Value → Mem → Prop} {a : Int} (hM : MR m) (hc : CMd m) (hwd : WDn m) (ha : 0 ≤ a ∧ a ≤ m 77 1) (hQ : Q (some (.int (J (clm m a)))) m) : CM G 2 mX12_clauseOf [.ref (G.2.2.2 76), .int (J (a))] m Q := by
  refine CM.of dkX12_clauseOf (Or.inl rfl) [some _, some _, none, none] rfl (Nat.le_of_ble_eq_true rfl) ?_
  have hc0 := hc.1; have hc1 := hc.2
  refine x_iconst (i := 0) (pc' := 1) rfl rfl ?_
  refine x_istore_n (L' := [some _, some _, some _, none]) (i := 1) (pc' := 2) rfl rfl rfl rfl (by decide) rfl ?_
  refine x_iconst (i := 2) (pc' := 3) rfl rfl ?_
  refine x_istore_n (L' := [some _, some _, some _, some _]) (i := 3) (pc' := 4) rfl rfl rfl rfl (by decide) rfl ?_
  skip
  refine up_ind0 (P := fun (j : Int) (x : Int) => BW G 2 mX12_clauseOf Q 4 [some (.ref (G.2.2.2 76)), some (.int (J (a))), some (.int (J (x))), some (.int (J (j)))] [] m) (fun (j : Int) (x : Int) => x + (if swm m j = 3 then 1 else 0)) (a) (0) (0) (by omega) (fun j x hj0 hj hk => ?_) ?_
  · have k6 : rg (swm m j) := hM _ _
    refine x_iload_n (i := 4) (pc' := 5) rfl rfl rfl rfl ?_
    refine x_iload_n (i := 5) (pc' := 6) rfl rfl rfl rfl ?_
    refine x_icmpge (i := 6) (pc' := 9) (tgt := 32) rfl rfl (by decide) ⟨by omega, by omega⟩ ⟨by omega, by omega⟩ (fun c1 => by exfalso; omega) (fun c1 => ?_)
    refine x_iload_n (i := 7) (pc' := 10) rfl rfl rfl rfl ?_
    refine x_aload_n (i := 8) (pc' := 11) rfl rfl rfl rfl ?_
    refine x_iload_n (i := 9) (pc' := 12) rfl rfl rfl rfl ?_
    refine m_callV (i := 10) (pc' := 15) (av := [_]) (rest := [_]) rfl rfl (by decide) lX12_189 (sh76 G) rfl rfl rfl rfl rfl (Nat.le_of_ble_eq_true rfl) (Nat.le_refl _) (Nat.le_refl _) (s_X12_sortOf hc hwd (by omega) ?_)
    dsimp only [psh]
    refine x_iconst (i := 11) (pc' := 16) rfl rfl ?_
    refine x_icmpne (i := 12) (pc' := 19) (tgt := 23) rfl rfl (by decide) ⟨by omega, by omega⟩ ⟨by omega, by omega⟩ (fun c2 => ?_) (fun c2 => ?_)
    · skip
      refine x_iconst (i := 15) (pc' := 24) rfl rfl ?_
      refine x_iadd (i := 16) (pc' := 25) rfl rfl ?_
      refine x_istore_n (L' := [some _, some _, some _, some _]) (i := 17) (pc' := 26) rfl rfl rfl rfl (by decide) rfl ?_
      refine x_iinc (L' := [some _, some _, some _, some _]) (i := 18) (pc' := 29) rfl rfl rfl rfl (by decide) rfl ?_
      refine x_goto (i := 19) (pc' := 4) rfl (by decide) ?_
      (first | exact hk | (refine AW.le ?_ hk; simp [lvle]; done) | ((repeat' split at hk) <;> first | exact hk | (refine AW.le ?_ hk; simp [lvle]; done) | (exfalso; omega)))
    · skip
      refine x_iconst (i := 13) (pc' := 20) rfl rfl ?_
      refine x_goto (i := 14) (pc' := 24) rfl (by decide) ?_
      refine x_iadd (i := 16) (pc' := 25) rfl rfl ?_
      refine x_istore_n (L' := [some _, some _, some _, some _]) (i := 17) (pc' := 26) rfl rfl rfl rfl (by decide) rfl ?_
      refine x_iinc (L' := [some _, some _, some _, some _]) (i := 18) (pc' := 29) rfl rfl rfl rfl (by decide) rfl ?_
      refine x_goto (i := 19) (pc' := 4) rfl (by decide) ?_
      (first | exact hk | (refine AW.le ?_ hk; simp [lvle]; done) | ((repeat' split at hk) <;> first | exact hk | (refine AW.le ?_ hk; simp [lvle]; done) | (exfalso; omega)))
  · skip
    refine x_iload_n (i := 4) (pc' := 5) rfl rfl rfl rfl ?_
    refine x_iload_n (i := 5) (pc' := 6) rfl rfl rfl rfl ?_
    refine x_icmpge (i := 6) (pc' := 9) (tgt := 32) rfl rfl (by decide) ⟨by omega, by omega⟩ ⟨by omega, by omega⟩ (fun c1 => ?_) (fun c1 => by exfalso; omega)
    refine x_iload_n (i := 20) (pc' := 33) rfl rfl rfl rfl ?_
    exact m_ireturn (i := 21) rfl rfl (by rw [Int.sub_zero]; exact hQ)
theorem s_X12_wordIs {G : GG} {m : Mem} {Q : Option Value → Mem → Prop} {a b : Int} (hM : MR m) (hc : CMd m) (hwd : WDn m) (ha : 0 ≤ a ∧ a < m 77 1) (hb : 0 ≤ b ∧ b ≤ 6) (hQ : Q (some (.int (J (wim m a b)))) m) : CM G 5 mX12_wordIs [.ref (G.2.2.2 76), .int (J (a)), .int (J (b))] m Q := by
  refine CM.of dkX12_wordIs (Or.inl rfl) [some _, some _, some _, none] rfl (Nat.le_of_ble_eq_true rfl) ?_
  have hc0 := hc.1; have hc1 := hc.2
  have k6 : rg (swm m a) := hM _ _
  have v1 := vnm_01 m a
  refine x_aload_n (i := 0) (pc' := 1) rfl rfl rfl rfl ?_
  refine x_iload_n (i := 1) (pc' := 2) rfl rfl rfl rfl ?_
  refine m_callV (i := 2) (pc' := 5) (av := [_]) (rest := []) rfl rfl (by decide) lX12_189 (sh76 G) rfl rfl rfl rfl rfl (Nat.le_of_ble_eq_true rfl) (Nat.le_refl _) (Nat.le_refl _) (s_X12_sortOf hc hwd (by omega) ?_)
  dsimp only [psh]
  refine x_istore_n (L' := [some _, some _, some _, some _]) (i := 3) (pc' := 6) rfl rfl rfl rfl (by decide) rfl ?_
  refine x_iload_n (i := 4) (pc' := 7) rfl rfl rfl rfl ?_
  rcases (by omega : b = 3 ∨ b = 4 ∨ b = 5 ∨ b = 6 ∨ (b < 3 ∨ 6 < b)) with c1 | c1 | c1 | c1 | c1
  · first | (exfalso; omega; done) | skip
    all_goals (
      refine x_tableIn (i := 5) (v := 3) (off := 29) (tgt := 36) rfl c1 ⟨by decide, by decide⟩ (by decide) (by decide) rfl (by decide) ?_
      refine x_aload_n (i := 6) (pc' := 37) rfl rfl rfl rfl ?_
      refine x_iload_n (i := 7) (pc' := 38) rfl rfl rfl rfl ?_
      refine m_callV (i := 8) (pc' := 41) (av := [_]) (rest := []) rfl rfl (by decide) lX12_198 (sh76 G) rfl rfl rfl rfl rfl (Nat.le_of_ble_eq_true rfl) (Nat.le_refl _) (Nat.le_refl _) (s_X12_clauseOf hM hc hwd (by omega) ?_)
      dsimp only [psh]
      exact m_ireturn (i := 9) rfl rfl (by unfold wim at hQ; (repeat' split at hQ) <;> first | (exfalso; omega; done) | (rw [show vnm m a = 1 by omega] at hQ; exact hQ) | (rw [show vnm m a = 0 by omega] at hQ; exact hQ) | exact hQ)
      skip)
  · first | (exfalso; omega; done) | skip
    all_goals (
      refine x_tableIn (i := 5) (v := 4) (off := 35) (tgt := 42) rfl c1 ⟨by decide, by decide⟩ (by decide) (by decide) rfl (by decide) ?_
      refine x_aload_n (i := 10) (pc' := 43) rfl rfl rfl rfl ?_
      refine x_iload_n (i := 11) (pc' := 44) rfl rfl rfl rfl ?_
      refine m_callV (i := 12) (pc' := 47) (av := [_]) (rest := []) rfl rfl (by decide) lX12_201 (sh76 G) rfl rfl rfl rfl rfl (Nat.le_of_ble_eq_true rfl) (Nat.le_refl _) (Nat.le_refl _) (s_X12_isVain hM hc hwd (by omega) ?_)
      dsimp only [psh]
      refine x_ifeq (i := 13) (pc' := 50) (tgt := 54) rfl rfl (by decide) ⟨by omega, by omega⟩ (fun c2 => ?_) (fun c2 => ?_)
      · first | (exfalso; omega; done) | skip
        all_goals (
          refine x_iconst (i := 16) (pc' := 55) rfl rfl ?_
          exact m_ireturn (i := 17) rfl rfl (by unfold wim at hQ; (repeat' split at hQ) <;> first | (exfalso; omega; done) | (rw [show vnm m a = 1 by omega] at hQ; exact hQ) | (rw [show vnm m a = 0 by omega] at hQ; exact hQ) | exact hQ)
          skip)
      · first | (exfalso; omega; done) | skip
        all_goals (
          refine x_iconst (i := 14) (pc' := 51) rfl rfl ?_
          refine x_goto (i := 15) (pc' := 55) rfl (by decide) ?_
          exact m_ireturn (i := 17) rfl rfl (by unfold wim at hQ; (repeat' split at hQ) <;> first | (exfalso; omega; done) | (rw [show vnm m a = 1 by omega] at hQ; exact hQ) | (rw [show vnm m a = 0 by omega] at hQ; exact hQ) | exact hQ)
          skip)
      skip)
  · first | (exfalso; omega; done) | skip
    all_goals (
      refine x_tableIn (i := 5) (v := 5) (off := 49) (tgt := 56) rfl c1 ⟨by decide, by decide⟩ (by decide) (by decide) rfl (by decide) ?_
      refine x_iload_n (i := 18) (pc' := 57) rfl rfl rfl rfl ?_
      refine x_iconst (i := 19) (pc' := 58) rfl rfl ?_
      refine x_icmpne (i := 20) (pc' := 61) (tgt := 70) rfl rfl (by decide) ⟨by omega, by omega⟩ ⟨by omega, by omega⟩ (fun c3 => ?_) (fun c3 => ?_)
      · first | (exfalso; omega; done) | skip
        all_goals (
          refine x_iload_n (i := 26) (pc' := 71) rfl rfl rfl rfl ?_
          refine x_iconst (i := 27) (pc' := 72) rfl rfl ?_
          refine x_icmpne (i := 28) (pc' := 75) (tgt := 84) rfl rfl (by decide) ⟨by omega, by omega⟩ ⟨by omega, by omega⟩ (fun c4 => ?_) (fun c4 => ?_)
          · first | (exfalso; omega; done) | skip
            all_goals (
              refine x_iconst (i := 34) (pc' := 85) rfl rfl ?_
              exact m_ireturn (i := 35) rfl rfl (by unfold wim at hQ; (repeat' split at hQ) <;> first | (exfalso; omega; done) | (rw [show vnm m a = 1 by omega] at hQ; exact hQ) | (rw [show vnm m a = 0 by omega] at hQ; exact hQ) | exact hQ)
              skip)
          · first | (exfalso; omega; done) | skip
            all_goals (
              refine x_aload_n (i := 29) (pc' := 76) rfl rfl rfl rfl ?_
              refine x_iload_n (i := 30) (pc' := 77) rfl rfl rfl rfl ?_
              refine x_iconst (i := 31) (pc' := 78) rfl rfl ?_
              refine m_callV (i := 32) (pc' := 81) (av := [_, _]) (rest := []) rfl rfl (by decide) lX12_195 (sh76 G) rfl rfl rfl rfl rfl (Nat.le_of_ble_eq_true rfl) (Nat.le_refl _) (Nat.le_refl _) (s_X12_meant hM hc hwd (by omega) (by omega) ?_)
              dsimp only [psh]
              refine x_goto (i := 33) (pc' := 85) rfl (by decide) ?_
              exact m_ireturn (i := 35) rfl rfl (by unfold wim at hQ; (repeat' split at hQ) <;> first | (exfalso; omega; done) | (rw [show vnm m a = 1 by omega] at hQ; exact hQ) | (rw [show vnm m a = 0 by omega] at hQ; exact hQ) | exact hQ)
              skip)
          skip)
      · first | (exfalso; omega; done) | skip
        all_goals (
          refine x_aload_n (i := 21) (pc' := 62) rfl rfl rfl rfl ?_
          refine x_iload_n (i := 22) (pc' := 63) rfl rfl rfl rfl ?_
          refine x_iconst (i := 23) (pc' := 64) rfl rfl ?_
          refine m_callV (i := 24) (pc' := 67) (av := [_, _]) (rest := []) rfl rfl (by decide) lX12_195 (sh76 G) rfl rfl rfl rfl rfl (Nat.le_of_ble_eq_true rfl) (Nat.le_refl _) (Nat.le_refl _) (s_X12_meant hM hc hwd (by omega) (by omega) ?_)
          dsimp only [psh]
          refine x_goto (i := 25) (pc' := 85) rfl (by decide) ?_
          exact m_ireturn (i := 35) rfl rfl (by unfold wim at hQ; (repeat' split at hQ) <;> first | (exfalso; omega; done) | (rw [show vnm m a = 1 by omega] at hQ; exact hQ) | (rw [show vnm m a = 0 by omega] at hQ; exact hQ) | exact hQ)
          skip)
      skip)
  · first | (exfalso; omega; done) | skip
    all_goals (
      refine x_tableIn (i := 5) (v := 6) (off := 79) (tgt := 86) rfl c1 ⟨by decide, by decide⟩ (by decide) (by decide) rfl (by decide) ?_
      refine x_iload_n (i := 36) (pc' := 87) rfl rfl rfl rfl ?_
      refine x_iconst (i := 37) (pc' := 88) rfl rfl ?_
      refine x_icmpne (i := 38) (pc' := 91) (tgt := 100) rfl rfl (by decide) ⟨by omega, by omega⟩ ⟨by omega, by omega⟩ (fun c5 => ?_) (fun c5 => ?_)
      · first | (exfalso; omega; done) | skip
        all_goals (
          refine x_iconst (i := 44) (pc' := 101) rfl rfl ?_
          exact m_ireturn (i := 45) rfl rfl (by unfold wim at hQ; (repeat' split at hQ) <;> first | (exfalso; omega; done) | (rw [show vnm m a = 1 by omega] at hQ; exact hQ) | (rw [show vnm m a = 0 by omega] at hQ; exact hQ) | exact hQ)
          skip)
      · first | (exfalso; omega; done) | skip
        all_goals (
          refine x_aload_n (i := 39) (pc' := 92) rfl rfl rfl rfl ?_
          refine x_iload_n (i := 40) (pc' := 93) rfl rfl rfl rfl ?_
          refine x_iconst (i := 41) (pc' := 94) rfl rfl ?_
          refine m_callV (i := 42) (pc' := 97) (av := [_, _]) (rest := []) rfl rfl (by decide) lX12_195 (sh76 G) rfl rfl rfl rfl rfl (Nat.le_of_ble_eq_true rfl) (Nat.le_refl _) (Nat.le_refl _) (s_X12_meant hM hc hwd (by omega) (by omega) ?_)
          dsimp only [psh]
          refine x_goto (i := 43) (pc' := 101) rfl (by decide) ?_
          exact m_ireturn (i := 45) rfl rfl (by unfold wim at hQ; (repeat' split at hQ) <;> first | (exfalso; omega; done) | (rw [show vnm m a = 1 by omega] at hQ; exact hQ) | (rw [show vnm m a = 0 by omega] at hQ; exact hQ) | exact hQ)
          skip)
      skip)
  · first | (exfalso; omega; done) | skip
    all_goals (
      refine x_tableOut (i := 5) (tgt := 102) rfl ⟨by omega, by omega⟩ c1 (by decide) ?_
      refine x_aload_n (i := 46) (pc' := 103) rfl rfl rfl rfl ?_
      refine x_iload_n (i := 47) (pc' := 104) rfl rfl rfl rfl ?_
      refine x_iload_n (i := 48) (pc' := 105) rfl rfl rfl rfl ?_
      refine m_callV (i := 49) (pc' := 108) (av := [_, _]) (rest := []) rfl rfl (by decide) lX12_171 (sh76 G) rfl rfl rfl rfl rfl (Nat.le_of_ble_eq_true rfl) (Nat.le_refl _) (Nat.le_refl _) (s_X12_said (by omega) (by omega) ?_)
      dsimp only [psh]
      exact m_ireturn (i := 50) rfl rfl (by unfold wim at hQ; (repeat' split at hQ) <;> first | (exfalso; omega; done) | (rw [show vnm m a = 1 by omega] at hQ; exact hQ) | (rw [show vnm m a = 0 by omega] at hQ; exact hQ) | exact hQ)
      skip)
theorem s_X12_rank {G : GG} {m : Mem} {Q : Option Value → Mem → Prop} {a : Int} (hM : MR m) (hc : CMd m) (hwd : WDn m) (ha : 0 ≤ a ∧ a < m 77 1) (hQ : Q (some (.int (J (rkm m a)))) m) : CM G 2 mX12_rank [.ref (G.2.2.2 76), .int (J (a))] m Q := by
  refine CM.of dkX12_rank (Or.inl rfl) [some _, some _, none] rfl (Nat.le_of_ble_eq_true rfl) ?_
  have hc0 := hc.1; have hc1 := hc.2
  have k6 : rg (swm m a) := hM _ _
  refine x_aload_n (i := 0) (pc' := 1) rfl rfl rfl rfl ?_
  refine x_iload_n (i := 1) (pc' := 2) rfl rfl rfl rfl ?_
  refine m_callV (i := 2) (pc' := 5) (av := [_]) (rest := []) rfl rfl (by decide) lX12_189 (sh76 G) rfl rfl rfl rfl rfl (Nat.le_of_ble_eq_true rfl) (Nat.le_refl _) (Nat.le_refl _) (s_X12_sortOf hc hwd (by omega) ?_)
  dsimp only [psh]
  refine x_istore_n (L' := [some _, some _, some _]) (i := 3) (pc' := 6) rfl rfl rfl rfl (by decide) rfl ?_
  refine x_iload_n (i := 4) (pc' := 7) rfl rfl rfl rfl ?_
  refine x_ifne (i := 5) (pc' := 10) (tgt := 14) rfl rfl (by decide) ⟨by omega, by omega⟩ (fun c1 => ?_) (fun c1 => ?_)
  · skip
    refine x_iload_n (i := 8) (pc' := 15) rfl rfl rfl rfl ?_
    refine x_iconst (i := 9) (pc' := 16) rfl rfl ?_
    refine x_icmpne (i := 10) (pc' := 19) (tgt := 23) rfl rfl (by decide) ⟨by omega, by omega⟩ ⟨by omega, by omega⟩ (fun c2 => ?_) (fun c2 => ?_)
    · skip
      refine x_iconst (i := 13) (pc' := 24) rfl rfl ?_
      exact m_ireturn (i := 14) rfl rfl (by unfold rkm at hQ; (repeat' split at hQ) <;> first | exact hQ | (exfalso; omega))
    · skip
      refine x_iconst (i := 11) (pc' := 20) rfl rfl ?_
      refine x_goto (i := 12) (pc' := 24) rfl (by decide) ?_
      exact m_ireturn (i := 14) rfl rfl (by unfold rkm at hQ; (repeat' split at hQ) <;> first | exact hQ | (exfalso; omega))
  · skip
    refine x_iconst (i := 6) (pc' := 11) rfl rfl ?_
    refine x_goto (i := 7) (pc' := 24) rfl (by decide) ?_
    exact m_ireturn (i := 14) rfl rfl (by unfold rkm at hQ; (repeat' split at hQ) <;> first | exact hQ | (exfalso; omega))
theorem s_X12_wordOf {G : GG} {m : Mem} {Q : Option Value → Mem → Prop} {a b : Int} (h : GM m) (ra : rg a) (rb : rg b) (hQ : Q (some (.int (J (if (0 ≤ a ∧ a < m 77 1) ∧ (0 ≤ b ∧ b ≤ 6) then (wim m a b) else -2)))) (if (0 ≤ a ∧ a < m 77 1) ∧ (0 ≤ b ∧ b ≤ 6) then (m) else rfm m (-2))) : CM G 6 mX12_wordOf [.ref (G.2.2.2 76), .int (J (a)), .int (J (b))] m Q := by
  refine CM.of dkX12_wordOf (Or.inl rfl) [some _, some _, some _] rfl (Nat.le_of_ble_eq_true rfl) ?_
  obtain ⟨hM, ⟨hn, hc, hv, hst, hw, hwd, hpo⟩, hst5, hle, her⟩ := h
  have hn0 := hn.1; have hn1 := hn.2; have hc0 := hc.1; have hc1 := hc.2
  refine x_aload_n (i := 0) (pc' := 1) rfl rfl rfl rfl ?_
  refine x_iload_n (i := 1) (pc' := 2) rfl rfl rfl rfl ?_
  refine m_callV (i := 2) (pc' := 5) (av := [_]) (rest := []) rfl rfl (by decide) lX12_180 (sh76 G) rfl rfl rfl rfl rfl (Nat.le_of_ble_eq_true rfl) (Nat.le_refl _) (Nat.le_refl _) (s_X12_isWord hc ra ?_)
  dsimp only [psh]
  refine x_ifeq (i := 3) (pc' := 8) (tgt := 29) rfl rfl (by decide) (by (repeat' split at *) <;> omega) (fun c1 => ?_) (fun c1 => ?_)
  · skip
    refine x_aload_n (i := 15) (pc' := 30) rfl rfl rfl rfl ?_
    refine x_bipush (i := 16) (pc' := 32) rfl rfl (by decide) ?_
    refine m_callV (i := 17) (pc' := 35) (av := [_]) (rest := []) rfl rfl (by decide) lX12_69 (sh76 G) rfl rfl rfl rfl rfl (Nat.le_of_ble_eq_true rfl) (Nat.le_refl _) (Nat.le_refl _) (s_X12_refuses (by omega) ?_)
    dsimp only [psh]
    exact m_ireturn (i := 18) rfl rfl (by (repeat' split at hQ) <;> (repeat' split at *) <;> first | exact hQ | (exfalso; omega))
  · skip
    refine x_iload_n (i := 4) (pc' := 9) rfl rfl rfl rfl ?_
    refine x_i2l (i := 5) (pc' := 10) rfl rfl (by (repeat' split at *) <;> omega) ?_
    refine x_lconst (a := 0) (i := 6) (pc' := 11) rfl rfl rfl ?_
    refine x_ldc2 (i := 7) (pc' := 14) rfl rfl kX12_204 ?_
    refine m_callS (i := 8) (pc' := 17) (av := [_, _, _]) (rest := []) rfl rfl (by decide) lX12_42 rfl rfl (Nat.le_of_ble_eq_true rfl) (Nat.le_refl _) (Nat.le_refl _) (s_X12_in (by omega) (by omega) (by omega) ?_)
    dsimp only [psh]
    refine x_ifeq (i := 9) (pc' := 20) (tgt := 29) rfl rfl (by decide) (by (repeat' split at *) <;> omega) (fun c2 => ?_) (fun c2 => ?_)
    · skip
      refine x_aload_n (i := 15) (pc' := 30) rfl rfl rfl rfl ?_
      refine x_bipush (i := 16) (pc' := 32) rfl rfl (by decide) ?_
      refine m_callV (i := 17) (pc' := 35) (av := [_]) (rest := []) rfl rfl (by decide) lX12_69 (sh76 G) rfl rfl rfl rfl rfl (Nat.le_of_ble_eq_true rfl) (Nat.le_refl _) (Nat.le_refl _) (s_X12_refuses (by omega) ?_)
      dsimp only [psh]
      exact m_ireturn (i := 18) rfl rfl (by (repeat' split at hQ) <;> (repeat' split at *) <;> first | exact hQ | (exfalso; omega))
    · skip
      refine x_aload_n (i := 10) (pc' := 21) rfl rfl rfl rfl ?_
      refine x_iload_n (i := 11) (pc' := 22) rfl rfl rfl rfl ?_
      refine x_iload_n (i := 12) (pc' := 23) rfl rfl rfl rfl ?_
      refine m_callV (i := 13) (pc' := 26) (av := [_, _]) (rest := []) rfl rfl (by decide) lX12_206 (sh76 G) rfl rfl rfl rfl rfl (Nat.le_of_ble_eq_true rfl) (Nat.le_refl _) (Nat.le_refl _) (s_X12_wordIs hM hc (hwd.n hn) (by (repeat' split at *) <;> omega) (by (repeat' split at *) <;> omega) ?_)
      dsimp only [psh]
      refine x_goto (i := 14) (pc' := 35) rfl (by decide) ?_
      exact m_ireturn (i := 18) rfl rfl (by (repeat' split at hQ) <;> (repeat' split at *) <;> first | exact hQ | (exfalso; omega))
theorem s_X12_at {G : GG} {m : Mem} {Q : Option Value → Mem → Prop} {a b : Int} (h : GM m) (ra : rg a) (rb : rg b) (hQ : Q (some (.int (J (if (0 ≤ a ∧ a ≤ 5) ∧ (0 ≤ b ∧ b ≤ 16) then (atm m a b) else -2)))) (if (0 ≤ a ∧ a ≤ 5) ∧ (0 ≤ b ∧ b ≤ 16) then (m) else rfm m (-2))) : CM G 3 mX12_at [.ref (G.2.2.2 76), .int (J (a)), .int (J (b))] m Q := by
  refine CM.of dkX12_at (Or.inl rfl) [some _, some _, some _] rfl (Nat.le_of_ble_eq_true rfl) ?_
  obtain ⟨hM, ⟨hn, hc, hv, hst, hw, hwd, hpo⟩, hst5, hle, her⟩ := h
  have hn0 := hn.1; have hn1 := hn.2; have hc0 := hc.1; have hc1 := hc.2
  refine x_iload_n (i := 0) (pc' := 1) rfl rfl rfl rfl ?_
  refine m_callS (i := 1) (pc' := 4) (av := [_]) (rest := []) rfl rfl (by decide) lX12_209 rfl rfl (Nat.le_of_ble_eq_true rfl) (Nat.le_refl _) (Nat.le_refl _) (s_X12_isSpot ra ?_)
  dsimp only [psh]
  refine x_ifeq (i := 2) (pc' := 7) (tgt := 28) rfl rfl (by decide) (by (repeat' split at *) <;> omega) (fun c1 => ?_) (fun c1 => ?_)
  · skip
    refine x_aload_n (i := 14) (pc' := 29) rfl rfl rfl rfl ?_
    refine x_bipush (i := 15) (pc' := 31) rfl rfl (by decide) ?_
    refine m_callV (i := 16) (pc' := 34) (av := [_]) (rest := []) rfl rfl (by decide) lX12_69 (sh76 G) rfl rfl rfl rfl rfl (Nat.le_of_ble_eq_true rfl) (Nat.le_refl _) (Nat.le_refl _) (s_X12_refuses (by omega) ?_)
    dsimp only [psh]
    exact m_ireturn (i := 17) rfl rfl (by (repeat' split at hQ) <;> (repeat' split at *) <;> first | exact hQ | (exfalso; omega))
  · skip
    refine x_iload_n (i := 3) (pc' := 8) rfl rfl rfl rfl ?_
    refine x_i2l (i := 4) (pc' := 9) rfl rfl (by (repeat' split at *) <;> omega) ?_
    refine x_lconst (a := 0) (i := 5) (pc' := 10) rfl rfl rfl ?_
    refine x_ldc2 (i := 6) (pc' := 13) rfl rfl kX12_115 ?_
    refine m_callS (i := 7) (pc' := 16) (av := [_, _, _]) (rest := []) rfl rfl (by decide) lX12_42 rfl rfl (Nat.le_of_ble_eq_true rfl) (Nat.le_refl _) (Nat.le_refl _) (s_X12_in (by omega) (by omega) (by omega) ?_)
    dsimp only [psh]
    refine x_ifeq (i := 8) (pc' := 19) (tgt := 28) rfl rfl (by decide) (by (repeat' split at *) <;> omega) (fun c2 => ?_) (fun c2 => ?_)
    · skip
      refine x_aload_n (i := 14) (pc' := 29) rfl rfl rfl rfl ?_
      refine x_bipush (i := 15) (pc' := 31) rfl rfl (by decide) ?_
      refine m_callV (i := 16) (pc' := 34) (av := [_]) (rest := []) rfl rfl (by decide) lX12_69 (sh76 G) rfl rfl rfl rfl rfl (Nat.le_of_ble_eq_true rfl) (Nat.le_refl _) (Nat.le_refl _) (s_X12_refuses (by omega) ?_)
      dsimp only [psh]
      exact m_ireturn (i := 17) rfl rfl (by (repeat' split at hQ) <;> (repeat' split at *) <;> first | exact hQ | (exfalso; omega))
    · skip
      refine x_aload_n (i := 9) (pc' := 20) rfl rfl rfl rfl ?_
      refine x_iload_n (i := 10) (pc' := 21) rfl rfl rfl rfl ?_
      refine x_iload_n (i := 11) (pc' := 22) rfl rfl rfl rfl ?_
      refine m_callV (i := 12) (pc' := 25) (av := [_, _]) (rest := []) rfl rfl (by decide) lX12_192 (sh76 G) rfl rfl rfl rfl rfl (Nat.le_of_ble_eq_true rfl) (Nat.le_refl _) (Nat.le_refl _) (s_X12_atSpot hM hc (hwd.n hn) ra (by (repeat' split at *) <;> omega) ?_)
      dsimp only [psh]
      refine x_goto (i := 13) (pc' := 34) rfl (by decide) ?_
      exact m_ireturn (i := 17) rfl rfl (by (repeat' split at hQ) <;> (repeat' split at *) <;> first | exact hQ | (exfalso; omega))
theorem s_X12_lay {G : GG} {m : Mem} {Q : Option Value → Mem → Prop} {a : Int} (h : GM m) (ra : rg a) (hQ : Q (some (.int (J (if 0 ≤ a ∧ a ≤ 5 then (m 77 (134 + a)) else -2)))) (if 0 ≤ a ∧ a ≤ 5 then (m) else rfm m (-2))) : CM G 2 mX12_lay [.ref (G.2.2.2 76), .int (J (a))] m Q := by
  refine CM.of dkX12_lay (Or.inl rfl) [some _, some _] rfl (Nat.le_of_ble_eq_true rfl) ?_
  obtain ⟨hM, ⟨hn, hc, hv, hst, hw, hwd, hpo⟩, hst5, hle, her⟩ := h
  have hn0 := hn.1; have hn1 := hn.2; have hc0 := hc.1; have hc1 := hc.2
  refine x_iload_n (i := 0) (pc' := 1) rfl rfl rfl rfl ?_
  refine m_callS (i := 1) (pc' := 4) (av := [_]) (rest := []) rfl rfl (by decide) lX12_209 rfl rfl (Nat.le_of_ble_eq_true rfl) (Nat.le_refl _) (Nat.le_refl _) (s_X12_isSpot ra ?_)
  dsimp only [psh]
  refine x_ifeq (i := 2) (pc' := 7) (tgt := 20) rfl rfl (by decide) (by (repeat' split at *) <;> omega) (fun c1 => ?_) (fun c1 => ?_)
  · skip
    refine x_aload_n (i := 10) (pc' := 21) rfl rfl rfl rfl ?_
    refine x_bipush (i := 11) (pc' := 23) rfl rfl (by decide) ?_
    refine m_callV (i := 12) (pc' := 26) (av := [_]) (rest := []) rfl rfl (by decide) lX12_69 (sh76 G) rfl rfl rfl rfl rfl (Nat.le_of_ble_eq_true rfl) (Nat.le_refl _) (Nat.le_refl _) (s_X12_refuses (by omega) ?_)
    dsimp only [psh]
    exact m_ireturn (i := 13) rfl rfl (by (repeat' split at hQ) <;> (repeat' split at *) <;> first | exact hQ | (exfalso; omega))
  · skip
    refine x_aload_n (i := 3) (pc' := 8) rfl rfl rfl rfl ?_
    refine m_getf (i := 4) (pc' := 11) rfl rfl flX12_7 (sh76 G) rfl rfl ?_
    refine x_sipush (i := 5) (pc' := 14) rfl rfl (by decide) ?_
    refine x_iload_n (i := 6) (pc' := 15) rfl rfl rfl rfl ?_
    refine x_iadd (i := 7) (pc' := 16) rfl rfl ?_
    refine m_iald (i := 8) (pc' := 17) rfl rfl (sh77 G) (by decide) ⟨by (repeat' split at *) <;> omega, by (repeat' split at *) <;> omega⟩ ?_
    refine x_goto (i := 9) (pc' := 26) rfl (by decide) ?_
    exact m_ireturn (i := 13) rfl rfl (by (repeat' split at hQ) <;> (repeat' split at *) <;> first | exact hQ | (exfalso; omega))
