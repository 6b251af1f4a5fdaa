def stg (m : Mem) : Mem := cps m (10 + 7 * (m 8 1).toNat) 1
def ks (m : Mem) : Mem := stm (stm m 8 1 ((m 8 1 + 1) % 6)) 8 2 (mn (m 8 2 + 1) 5)
def PX (m : Mem) : Prop := (0 ≤ m 8 1 ∧ m 8 1 ≤ 5) ∧ (0 ≤ m 8 2 ∧ m 8 2 ≤ 5)
def bkm (m : Mem) : Mem := cps (stm (stm m 8 1 ((m 8 1 + 6 - 1) % 6)) 8 2 (m 8 2 - 1)) 1 (10 + 7 * ((m 8 1 + 6 - 1) % 6).toNat)
def tha (m : Mem) (s : Int) : Int := if 0 ≤ s ∧ s ≤ 5 then m 58 s else -1
theorem tha_rg {m : Mem} (hM : MR m) (s : Int) : rg (tha m s) := by
  unfold tha
  split
  · exact hM _ _
  · decide
def sw (m : Mem) (j : Int) : Int := m 3 (m 6 (j * 3 + 0) * 5 + 4)
def iw0 (m : Mem) (i : Int) : Mem := stm (stm (stm m 60 i 0) 61 i (-1)) 62 i (-1)
def iw (m : Mem) (i s : Int) : Mem :=
  if s = 1 then (if 0 ≤ m 6 (i * 3 + 2) ∧ m 6 (i * 3 + 2) ≤ 5 then stm (iw0 m i) 58 (m 6 (i * 3 + 2)) (m 6 (i * 3 + 0)) else iw0 m i)
  else if s = 2 then stm (stm (iw0 m i) 61 i (tha m (m 6 (i * 3 + 2)))) 60 i (if tha m (m 6 (i * 3 + 2)) = -1 then 1 else 0)
  else if s = 3 then stm (stm (stm (iw0 m i) 61 i (tha m (m 6 (i * 3 + 1)))) 62 i (tha m (m 6 (i * 3 + 2)))) 60 i (if (¬ m 6 (i * 3 + 1) = -1 ∧ tha m (m 6 (i * 3 + 1)) = -1) ∨ (¬ m 6 (i * 3 + 2) = -1 ∧ tha m (m 6 (i * 3 + 2)) = -1) then 1 else 0)
  else iw0 m i
theorem s_X5_stage {G : GG} {m : Mem} {Q : Option Value → Mem → Prop} (hx : 0 ≤ m 8 1 ∧ m 8 1 ≤ 5) (hQ : Q none (stg m)) : CM G 3 mX5_stage [.ref (G.2.2.2 8), .ref (G.2.2.2 1)] m Q := by
  refine CM.of dkX5_stage (Or.inl rfl) [some _, some _] rfl (Nat.le_of_ble_eq_true rfl) ?_
  unfold stg at hQ
  rcases (by omega : m 8 1 = 0 ∨ m 8 1 = 1 ∨ m 8 1 = 2 ∨ m 8 1 = 3 ∨ m 8 1 = 4 ∨ m 8 1 = 5) with h | h | h | h | h | h
  · have e : 10 + 7 * (m 8 1).toNat = 10 := (by rw [h]; rfl)
    rw [e] at hQ
    refine x_aload_n (i := 0) (pc' := 1) rfl rfl rfl rfl ?_
    refine m_getf (i := 1) (pc' := 4) rfl rfl flX5_13 (sh8 G) rfl rfl ?_
    refine x_aload_n (i := 2) (pc' := 5) rfl rfl rfl rfl ?_
    refine m_getf (i := 3) (pc' := 8) rfl rfl flX5_17 (sh8 G) rfl rfl ?_
    refine m_aald (v := 10) (i := 4) (pc' := 9) rfl rfl (by omega) e.symm ?_
    refine x_aload_n (i := 5) (pc' := 10) rfl rfl rfl rfl ?_
    refine m_callV (i := 6) (pc' := 13) (av := [_]) (rest := []) rfl rfl (by decide) lX5_25 (sh10 G) rfl rfl rfl rfl rfl (Nat.le_of_ble_eq_true rfl) (Nat.le_refl _) (Nat.le_refl _) (s_X9_copyFrom_10_1 ?_)
    dsimp only [psh]
    exact m_return (i := 7) rfl rfl (hQ)
  · have e : 10 + 7 * (m 8 1).toNat = 17 := (by rw [h]; rfl)
    rw [e] at hQ
    refine x_aload_n (i := 0) (pc' := 1) rfl rfl rfl rfl ?_
    refine m_getf (i := 1) (pc' := 4) rfl rfl flX5_13 (sh8 G) rfl rfl ?_
    refine x_aload_n (i := 2) (pc' := 5) rfl rfl rfl rfl ?_
    refine m_getf (i := 3) (pc' := 8) rfl rfl flX5_17 (sh8 G) rfl rfl ?_
    refine m_aald (v := 17) (i := 4) (pc' := 9) rfl rfl (by omega) e.symm ?_
    refine x_aload_n (i := 5) (pc' := 10) rfl rfl rfl rfl ?_
    refine m_callV (i := 6) (pc' := 13) (av := [_]) (rest := []) rfl rfl (by decide) lX5_25 (sh17 G) rfl rfl rfl rfl rfl (Nat.le_of_ble_eq_true rfl) (Nat.le_refl _) (Nat.le_refl _) (s_X9_copyFrom_17_1 ?_)
    dsimp only [psh]
    exact m_return (i := 7) rfl rfl (hQ)
  · have e : 10 + 7 * (m 8 1).toNat = 24 := (by rw [h]; rfl)
    rw [e] at hQ
    refine x_aload_n (i := 0) (pc' := 1) rfl rfl rfl rfl ?_
    refine m_getf (i := 1) (pc' := 4) rfl rfl flX5_13 (sh8 G) rfl rfl ?_
    refine x_aload_n (i := 2) (pc' := 5) rfl rfl rfl rfl ?_
    refine m_getf (i := 3) (pc' := 8) rfl rfl flX5_17 (sh8 G) rfl rfl ?_
    refine m_aald (v := 24) (i := 4) (pc' := 9) rfl rfl (by omega) e.symm ?_
    refine x_aload_n (i := 5) (pc' := 10) rfl rfl rfl rfl ?_
    refine m_callV (i := 6) (pc' := 13) (av := [_]) (rest := []) rfl rfl (by decide) lX5_25 (sh24 G) rfl rfl rfl rfl rfl (Nat.le_of_ble_eq_true rfl) (Nat.le_refl _) (Nat.le_refl _) (s_X9_copyFrom_24_1 ?_)
    dsimp only [psh]
    exact m_return (i := 7) rfl rfl (hQ)
  · have e : 10 + 7 * (m 8 1).toNat = 31 := (by rw [h]; rfl)
    rw [e] at hQ
    refine x_aload_n (i := 0) (pc' := 1) rfl rfl rfl rfl ?_
    refine m_getf (i := 1) (pc' := 4) rfl rfl flX5_13 (sh8 G) rfl rfl ?_
    refine x_aload_n (i := 2) (pc' := 5) rfl rfl rfl rfl ?_
    refine m_getf (i := 3) (pc' := 8) rfl rfl flX5_17 (sh8 G) rfl rfl ?_
    refine m_aald (v := 31) (i := 4) (pc' := 9) rfl rfl (by omega) e.symm ?_
    refine x_aload_n (i := 5) (pc' := 10) rfl rfl rfl rfl ?_
    refine m_callV (i := 6) (pc' := 13) (av := [_]) (rest := []) rfl rfl (by decide) lX5_25 (sh31 G) rfl rfl rfl rfl rfl (Nat.le_of_ble_eq_true rfl) (Nat.le_refl _) (Nat.le_refl _) (s_X9_copyFrom_31_1 ?_)
    dsimp only [psh]
    exact m_return (i := 7) rfl rfl (hQ)
  · have e : 10 + 7 * (m 8 1).toNat = 38 := (by rw [h]; rfl)
    rw [e] at hQ
    refine x_aload_n (i := 0) (pc' := 1) rfl rfl rfl rfl ?_
    refine m_getf (i := 1) (pc' := 4) rfl rfl flX5_13 (sh8 G) rfl rfl ?_
    refine x_aload_n (i := 2) (pc' := 5) rfl rfl rfl rfl ?_
    refine m_getf (i := 3) (pc' := 8) rfl rfl flX5_17 (sh8 G) rfl rfl ?_
    refine m_aald (v := 38) (i := 4) (pc' := 9) rfl rfl (by omega) e.symm ?_
    refine x_aload_n (i := 5) (pc' := 10) rfl rfl rfl rfl ?_
    refine m_callV (i := 6) (pc' := 13) (av := [_]) (rest := []) rfl rfl (by decide) lX5_25 (sh38 G) rfl rfl rfl rfl rfl (Nat.le_of_ble_eq_true rfl) (Nat.le_refl _) (Nat.le_refl _) (s_X9_copyFrom_38_1 ?_)
    dsimp only [psh]
    exact m_return (i := 7) rfl rfl (hQ)
  · have e : 10 + 7 * (m 8 1).toNat = 45 := (by rw [h]; rfl)
    rw [e] at hQ
    refine x_aload_n (i := 0) (pc' := 1) rfl rfl rfl rfl ?_
    refine m_getf (i := 1) (pc' := 4) rfl rfl flX5_13 (sh8 G) rfl rfl ?_
    refine x_aload_n (i := 2) (pc' := 5) rfl rfl rfl rfl ?_
    refine m_getf (i := 3) (pc' := 8) rfl rfl flX5_17 (sh8 G) rfl rfl ?_
    refine m_aald (v := 45) (i := 4) (pc' := 9) rfl rfl (by omega) e.symm ?_
    refine x_aload_n (i := 5) (pc' := 10) rfl rfl rfl rfl ?_
    refine m_callV (i := 6) (pc' := 13) (av := [_]) (rest := []) rfl rfl (by decide) lX5_25 (sh45 G) rfl rfl rfl rfl rfl (Nat.le_of_ble_eq_true rfl) (Nat.le_refl _) (Nat.le_refl _) (s_X9_copyFrom_45_1 ?_)
    dsimp only [psh]
    exact m_return (i := 7) rfl rfl (hQ)

theorem s_X5_unstage {G : GG} {m : Mem} {Q : Option Value → Mem → Prop} (hx : 0 ≤ m 8 1 ∧ m 8 1 ≤ 5) (hQ : Q none (cps m 1 (10 + 7 * (m 8 1).toNat))) : CM G 3 mX5_unstage [.ref (G.2.2.2 8), .ref (G.2.2.2 1)] m Q := by
  refine CM.of dkX5_unstage (Or.inl rfl) [some _, some _] rfl (Nat.le_of_ble_eq_true rfl) ?_
  rcases (by omega : m 8 1 = 0 ∨ m 8 1 = 1 ∨ m 8 1 = 2 ∨ m 8 1 = 3 ∨ m 8 1 = 4 ∨ m 8 1 = 5) with h | h | h | h | h | h
  · have e : 10 + 7 * (m 8 1).toNat = 10 := (by rw [h]; rfl)
    rw [e] at hQ
    refine x_aload_n (i := 0) (pc' := 1) rfl rfl rfl rfl ?_
    refine x_aload_n (i := 1) (pc' := 2) rfl rfl rfl rfl ?_
    refine m_getf (i := 2) (pc' := 5) rfl rfl flX5_13 (sh8 G) rfl rfl ?_
    refine x_aload_n (i := 3) (pc' := 6) rfl rfl rfl rfl ?_
    refine m_getf (i := 4) (pc' := 9) rfl rfl flX5_17 (sh8 G) rfl rfl ?_
    refine m_aald (v := 10) (i := 5) (pc' := 10) rfl rfl (by omega) e.symm ?_
    refine m_callV (i := 6) (pc' := 13) (av := [_]) (rest := []) rfl rfl (by decide) lX5_25 (sh1 G) rfl rfl rfl rfl rfl (Nat.le_of_ble_eq_true rfl) (Nat.le_refl _) (Nat.le_refl _) (s_X9_copyFrom_1_10 ?_)
    dsimp only [psh]
    exact m_return (i := 7) rfl rfl (hQ)
  · have e : 10 + 7 * (m 8 1).toNat = 17 := (by rw [h]; rfl)
    rw [e] at hQ
    refine x_aload_n (i := 0) (pc' := 1) rfl rfl rfl rfl ?_
    refine x_aload_n (i := 1) (pc' := 2) rfl rfl rfl rfl ?_
    refine m_getf (i := 2) (pc' := 5) rfl rfl flX5_13 (sh8 G) rfl rfl ?_
    refine x_aload_n (i := 3) (pc' := 6) rfl rfl rfl rfl ?_
    refine m_getf (i := 4) (pc' := 9) rfl rfl flX5_17 (sh8 G) rfl rfl ?_
    refine m_aald (v := 17) (i := 5) (pc' := 10) rfl rfl (by omega) e.symm ?_
    refine m_callV (i := 6) (pc' := 13) (av := [_]) (rest := []) rfl rfl (by decide) lX5_25 (sh1 G) rfl rfl rfl rfl rfl (Nat.le_of_ble_eq_true rfl) (Nat.le_refl _) (Nat.le_refl _) (s_X9_copyFrom_1_17 ?_)
    dsimp only [psh]
    exact m_return (i := 7) rfl rfl (hQ)
  · have e : 10 + 7 * (m 8 1).toNat = 24 := (by rw [h]; rfl)
    rw [e] at hQ
    refine x_aload_n (i := 0) (pc' := 1) rfl rfl rfl rfl ?_
    refine x_aload_n (i := 1) (pc' := 2) rfl rfl rfl rfl ?_
    refine m_getf (i := 2) (pc' := 5) rfl rfl flX5_13 (sh8 G) rfl rfl ?_
    refine x_aload_n (i := 3) (pc' := 6) rfl rfl rfl rfl ?_
    refine m_getf (i := 4) (pc' := 9) rfl rfl flX5_17 (sh8 G) rfl rfl ?_
    refine m_aald (v := 24) (i := 5) (pc' := 10) rfl rfl (by omega) e.symm ?_
    refine m_callV (i := 6) (pc' := 13) (av := [_]) (rest := []) rfl rfl (by decide) lX5_25 (sh1 G) rfl rfl rfl rfl rfl (Nat.le_of_ble_eq_true rfl) (Nat.le_refl _) (Nat.le_refl _) (s_X9_copyFrom_1_24 ?_)
    dsimp only [psh]
    exact m_return (i := 7) rfl rfl (hQ)
  · have e : 10 + 7 * (m 8 1).toNat = 31 := (by rw [h]; rfl)
    rw [e] at hQ
    refine x_aload_n (i := 0) (pc' := 1) rfl rfl rfl rfl ?_
    refine x_aload_n (i := 1) (pc' := 2) rfl rfl rfl rfl ?_
    refine m_getf (i := 2) (pc' := 5) rfl rfl flX5_13 (sh8 G) rfl rfl ?_
    refine x_aload_n (i := 3) (pc' := 6) rfl rfl rfl rfl ?_
    refine m_getf (i := 4) (pc' := 9) rfl rfl flX5_17 (sh8 G) rfl rfl ?_
    refine m_aald (v := 31) (i := 5) (pc' := 10) rfl rfl (by omega) e.symm ?_
    refine m_callV (i := 6) (pc' := 13) (av := [_]) (rest := []) rfl rfl (by decide) lX5_25 (sh1 G) rfl rfl rfl rfl rfl (Nat.le_of_ble_eq_true rfl) (Nat.le_refl _) (Nat.le_refl _) (s_X9_copyFrom_1_31 ?_)
    dsimp only [psh]
    exact m_return (i := 7) rfl rfl (hQ)
  · have e : 10 + 7 * (m 8 1).toNat = 38 := (by rw [h]; rfl)
    rw [e] at hQ
    refine x_aload_n (i := 0) (pc' := 1) rfl rfl rfl rfl ?_
    refine x_aload_n (i := 1) (pc' := 2) rfl rfl rfl rfl ?_
    refine m_getf (i := 2) (pc' := 5) rfl rfl flX5_13 (sh8 G) rfl rfl ?_
    refine x_aload_n (i := 3) (pc' := 6) rfl rfl rfl rfl ?_
    refine m_getf (i := 4) (pc' := 9) rfl rfl flX5_17 (sh8 G) rfl rfl ?_
    refine m_aald (v := 38) (i := 5) (pc' := 10) rfl rfl (by omega) e.symm ?_
    refine m_callV (i := 6) (pc' := 13) (av := [_]) (rest := []) rfl rfl (by decide) lX5_25 (sh1 G) rfl rfl rfl rfl rfl (Nat.le_of_ble_eq_true rfl) (Nat.le_refl _) (Nat.le_refl _) (s_X9_copyFrom_1_38 ?_)
    dsimp only [psh]
    exact m_return (i := 7) rfl rfl (hQ)
  · have e : 10 + 7 * (m 8 1).toNat = 45 := (by rw [h]; rfl)
    rw [e] at hQ
    refine x_aload_n (i := 0) (pc' := 1) rfl rfl rfl rfl ?_
    refine x_aload_n (i := 1) (pc' := 2) rfl rfl rfl rfl ?_
    refine m_getf (i := 2) (pc' := 5) rfl rfl flX5_13 (sh8 G) rfl rfl ?_
    refine x_aload_n (i := 3) (pc' := 6) rfl rfl rfl rfl ?_
    refine m_getf (i := 4) (pc' := 9) rfl rfl flX5_17 (sh8 G) rfl rfl ?_
    refine m_aald (v := 45) (i := 5) (pc' := 10) rfl rfl (by omega) e.symm ?_
    refine m_callV (i := 6) (pc' := 13) (av := [_]) (rest := []) rfl rfl (by decide) lX5_25 (sh1 G) rfl rfl rfl rfl rfl (Nat.le_of_ble_eq_true rfl) (Nat.le_refl _) (Nat.le_refl _) (s_X9_copyFrom_1_45 ?_)
    dsimp only [psh]
    exact m_return (i := 7) rfl rfl (hQ)

theorem s_X5_keepStaged {G : GG} {m : Mem} {Q : Option Value → Mem → Prop} (hx : PX m) (hQ : Q none (ks m)) : CM G 1 mX5_keepStaged [.ref (G.2.2.2 8)] m Q := by
  refine CM.of dkX5_keepStaged (Or.inl rfl) [some _] rfl (Nat.le_of_ble_eq_true rfl) ?_
  have h1 := hx.1; have h2 := hx.2
  have e1 : stm m 8 1 ((m 8 1 + 1) % 6) 8 2 = m 8 2 := stm_ix _ _ _ (by decide)
  refine x_aload_n (i := 0) (pc' := 1) rfl rfl rfl rfl ?_
  refine x_aload_n (i := 1) (pc' := 2) rfl rfl rfl rfl ?_
  refine m_getf (i := 2) (pc' := 5) rfl rfl flX5_17 (sh8 G) rfl rfl ?_
  refine x_iconst (i := 3) (pc' := 6) rfl rfl ?_
  refine x_iadd (i := 4) (pc' := 7) rfl rfl ?_
  refine x_bipush (i := 5) (pc' := 9) rfl rfl (by decide) ?_
  refine x_irem (i := 6) (pc' := 10) rfl rfl ⟨by omega, by omega⟩ ⟨by omega, by omega⟩ (by omega) (by omega) ?_
  refine m_putf (kz := 1) (i := 7) (pc' := 13) rfl rfl flX5_17 (sh8 G) (fun _ => rfl) rfl (Nat.le_of_ble_eq_true rfl) rfl rfl ?_
  refine x_aload_n (i := 8) (pc' := 14) rfl rfl rfl rfl ?_
  refine x_aload_n (i := 9) (pc' := 15) rfl rfl rfl rfl ?_
  refine m_getf (i := 10) (pc' := 18) rfl rfl flX5_21 (sh8 G) rfl rfl ?_
  rw [e1]
  refine x_iconst (i := 11) (pc' := 19) rfl rfl ?_
  refine x_iadd (i := 12) (pc' := 20) rfl rfl ?_
  refine x_iconst (i := 13) (pc' := 21) rfl rfl ?_
  refine m_callS (i := 14) (pc' := 24) (av := [_, _]) (rest := [_]) rfl rfl (by decide) lX5_29 rfl rfl (Nat.le_of_ble_eq_true rfl) (Nat.le_refl _) (Nat.le_refl _) (s_J9_min_7cf53 (by omega) (by omega) ?_)
  dsimp only [psh]
  refine m_putf (kz := 2) (i := 15) (pc' := 27) rfl rfl flX5_21 (sh8 G) (fun _ => rfl) rfl (Nat.le_of_ble_eq_true rfl) rfl rfl ?_
  exact m_return (i := 16) rfl rfl (hQ)
theorem s_X5_restore {G : GG} {m : Mem} {Q : Option Value → Mem → Prop} (hx : PX m) (hQ : Q (some (.int (J (if m 8 2 = 0 then -3 else m 8 2 - 1)))) (if m 8 2 = 0 then m else bkm m)) : CM G 3 mX5_restore [.ref (G.2.2.2 8), .ref (G.2.2.2 1)] m Q := by
  refine CM.of dkX5_restore (Or.inl rfl) [some _, some _] rfl (Nat.le_of_ble_eq_true rfl) ?_
  have h1 := hx.1; have h2 := hx.2
  refine x_aload_n (i := 0) (pc' := 1) rfl rfl rfl rfl ?_
  refine m_getf (i := 1) (pc' := 4) rfl rfl flX5_21 (sh8 G) rfl rfl ?_
  refine x_ifne (i := 2) (pc' := 7) (tgt := 10) rfl rfl (by decide) ⟨by omega, by omega⟩ (fun c1 => ?_) (fun c1 => ?_)
  · skip
    rw [if_neg (by assumption), if_neg (by assumption)] at hQ
    unfold bkm at hQ
    have e1 : stm m 8 1 ((m 8 1 + 6 - 1) % 6) 8 2 = m 8 2 := stm_ix _ _ _ (by decide)
    have e2 : stm (stm m 8 1 ((m 8 1 + 6 - 1) % 6)) 8 2 (m 8 2 - 1) 8 1 = (m 8 1 + 6 - 1) % 6 := (by rw [stm_ix _ _ _ (by decide), stm_eq])
    have e3 : ∀ (mm : Mem) (z : Int) (b : Nat), (b = 10 ∨ b = 17 ∨ b = 24 ∨ b = 31 ∨ b = 38 ∨ b = 45) → cps (stm mm 8 2 z) 1 b 8 2 = z := (by
      intro mm z b hb
      rcases hb with h | h | h | h | h | h <;> (subst h; exact stm_eq mm 8 2 z))
    generalize hnx : (m 8 1 + 6 - 1) % 6 = nx at hQ e1 e2
    rcases (by omega : nx = 0 ∨ nx = 1 ∨ nx = 2 ∨ nx = 3 ∨ nx = 4 ∨ nx = 5) with h | h | h | h | h | h
    · have e : 10 + 7 * nx.toNat = 10 := (by rw [h]; rfl)
      rw [e] at hQ
      have e4 := e3 (stm m 8 1 nx) (m 8 2 - 1) 10 (by omega)
      refine x_aload_n (i := 5) (pc' := 11) rfl rfl rfl rfl ?_
      refine x_aload_n (i := 6) (pc' := 12) rfl rfl rfl rfl ?_
      refine m_getf (i := 7) (pc' := 15) rfl rfl flX5_17 (sh8 G) rfl rfl ?_
      refine x_bipush (i := 8) (pc' := 17) rfl rfl (by decide) ?_
      refine x_iadd (i := 9) (pc' := 18) rfl rfl ?_
      refine x_iconst (i := 10) (pc' := 19) rfl rfl ?_
      refine x_isub (i := 11) (pc' := 20) rfl rfl ?_
      refine x_bipush (i := 12) (pc' := 22) rfl rfl (by decide) ?_
      refine x_irem (i := 13) (pc' := 23) rfl rfl ⟨by omega, by omega⟩ ⟨by omega, by omega⟩ (by omega) (by omega) ?_
      rw [hnx]
      refine m_putf (kz := 1) (i := 14) (pc' := 26) rfl rfl flX5_17 (sh8 G) (fun _ => rfl) rfl (Nat.le_of_ble_eq_true rfl) rfl rfl ?_
      refine x_aload_n (i := 15) (pc' := 27) rfl rfl rfl rfl ?_
      refine x_dup (i := 16) (pc' := 28) rfl rfl rfl ?_
      refine m_getf (i := 17) (pc' := 31) rfl rfl flX5_21 (sh8 G) rfl rfl ?_
      rw [e1]
      refine x_iconst (i := 18) (pc' := 32) rfl rfl ?_
      refine x_isub (i := 19) (pc' := 33) rfl rfl ?_
      refine m_putf (kz := 2) (i := 20) (pc' := 36) rfl rfl flX5_21 (sh8 G) (fun _ => rfl) rfl (Nat.le_of_ble_eq_true rfl) rfl rfl ?_
      refine x_aload_n (i := 21) (pc' := 37) rfl rfl rfl rfl ?_
      refine x_aload_n (i := 22) (pc' := 38) rfl rfl rfl rfl ?_
      refine m_getf (i := 23) (pc' := 41) rfl rfl flX5_13 (sh8 G) rfl rfl ?_
      refine x_aload_n (i := 24) (pc' := 42) rfl rfl rfl rfl ?_
      refine m_getf (i := 25) (pc' := 45) rfl rfl flX5_17 (sh8 G) rfl rfl ?_
      rw [e2]
      refine m_aald (v := 10) (i := 26) (pc' := 46) rfl rfl (by omega) e.symm ?_
      refine m_callV (i := 27) (pc' := 49) (av := [_]) (rest := []) rfl rfl (by decide) lX5_25 (sh1 G) rfl rfl rfl rfl rfl (Nat.le_of_ble_eq_true rfl) (Nat.le_refl _) (Nat.le_refl _) (s_X9_copyFrom_1_10 ?_)
      dsimp only [psh]
      refine x_aload_n (i := 28) (pc' := 50) rfl rfl rfl rfl ?_
      refine m_getf (i := 29) (pc' := 53) rfl rfl flX5_21 (sh8 G) rfl rfl ?_
      rw [e4]
      exact m_ireturn (i := 30) rfl rfl (hQ)
    · have e : 10 + 7 * nx.toNat = 17 := (by rw [h]; rfl)
      rw [e] at hQ
      have e4 := e3 (stm m 8 1 nx) (m 8 2 - 1) 17 (by omega)
      refine x_aload_n (i := 5) (pc' := 11) rfl rfl rfl rfl ?_
      refine x_aload_n (i := 6) (pc' := 12) rfl rfl rfl rfl ?_
      refine m_getf (i := 7) (pc' := 15) rfl rfl flX5_17 (sh8 G) rfl rfl ?_
      refine x_bipush (i := 8) (pc' := 17) rfl rfl (by decide) ?_
      refine x_iadd (i := 9) (pc' := 18) rfl rfl ?_
      refine x_iconst (i := 10) (pc' := 19) rfl rfl ?_
      refine x_isub (i := 11) (pc' := 20) rfl rfl ?_
      refine x_bipush (i := 12) (pc' := 22) rfl rfl (by decide) ?_
      refine x_irem (i := 13) (pc' := 23) rfl rfl ⟨by omega, by omega⟩ ⟨by omega, by omega⟩ (by omega) (by omega) ?_
      rw [hnx]
      refine m_putf (kz := 1) (i := 14) (pc' := 26) rfl rfl flX5_17 (sh8 G) (fun _ => rfl) rfl (Nat.le_of_ble_eq_true rfl) rfl rfl ?_
      refine x_aload_n (i := 15) (pc' := 27) rfl rfl rfl rfl ?_
      refine x_dup (i := 16) (pc' := 28) rfl rfl rfl ?_
      refine m_getf (i := 17) (pc' := 31) rfl rfl flX5_21 (sh8 G) rfl rfl ?_
      rw [e1]
      refine x_iconst (i := 18) (pc' := 32) rfl rfl ?_
      refine x_isub (i := 19) (pc' := 33) rfl rfl ?_
      refine m_putf (kz := 2) (i := 20) (pc' := 36) rfl rfl flX5_21 (sh8 G) (fun _ => rfl) rfl (Nat.le_of_ble_eq_true rfl) rfl rfl ?_
      refine x_aload_n (i := 21) (pc' := 37) rfl rfl rfl rfl ?_
      refine x_aload_n (i := 22) (pc' := 38) rfl rfl rfl rfl ?_
      refine m_getf (i := 23) (pc' := 41) rfl rfl flX5_13 (sh8 G) rfl rfl ?_
      refine x_aload_n (i := 24) (pc' := 42) rfl rfl rfl rfl ?_
      refine m_getf (i := 25) (pc' := 45) rfl rfl flX5_17 (sh8 G) rfl rfl ?_
      rw [e2]
      refine m_aald (v := 17) (i := 26) (pc' := 46) rfl rfl (by omega) e.symm ?_
      refine m_callV (i := 27) (pc' := 49) (av := [_]) (rest := []) rfl rfl (by decide) lX5_25 (sh1 G) rfl rfl rfl rfl rfl (Nat.le_of_ble_eq_true rfl) (Nat.le_refl _) (Nat.le_refl _) (s_X9_copyFrom_1_17 ?_)
      dsimp only [psh]
      refine x_aload_n (i := 28) (pc' := 50) rfl rfl rfl rfl ?_
      refine m_getf (i := 29) (pc' := 53) rfl rfl flX5_21 (sh8 G) rfl rfl ?_
      rw [e4]
      exact m_ireturn (i := 30) rfl rfl (hQ)
    · have e : 10 + 7 * nx.toNat = 24 := (by rw [h]; rfl)
      rw [e] at hQ
      have e4 := e3 (stm m 8 1 nx) (m 8 2 - 1) 24 (by omega)
      refine x_aload_n (i := 5) (pc' := 11) rfl rfl rfl rfl ?_
      refine x_aload_n (i := 6) (pc' := 12) rfl rfl rfl rfl ?_
      refine m_getf (i := 7) (pc' := 15) rfl rfl flX5_17 (sh8 G) rfl rfl ?_
      refine x_bipush (i := 8) (pc' := 17) rfl rfl (by decide) ?_
      refine x_iadd (i := 9) (pc' := 18) rfl rfl ?_
      refine x_iconst (i := 10) (pc' := 19) rfl rfl ?_
      refine x_isub (i := 11) (pc' := 20) rfl rfl ?_
      refine x_bipush (i := 12) (pc' := 22) rfl rfl (by decide) ?_
      refine x_irem (i := 13) (pc' := 23) rfl rfl ⟨by omega, by omega⟩ ⟨by omega, by omega⟩ (by omega) (by omega) ?_
      rw [hnx]
      refine m_putf (kz := 1) (i := 14) (pc' := 26) rfl rfl flX5_17 (sh8 G) (fun _ => rfl) rfl (Nat.le_of_ble_eq_true rfl) rfl rfl ?_
      refine x_aload_n (i := 15) (pc' := 27) rfl rfl rfl rfl ?_
      refine x_dup (i := 16) (pc' := 28) rfl rfl rfl ?_
      refine m_getf (i := 17) (pc' := 31) rfl rfl flX5_21 (sh8 G) rfl rfl ?_
      rw [e1]
      refine x_iconst (i := 18) (pc' := 32) rfl rfl ?_
      refine x_isub (i := 19) (pc' := 33) rfl rfl ?_
      refine m_putf (kz := 2) (i := 20) (pc' := 36) rfl rfl flX5_21 (sh8 G) (fun _ => rfl) rfl (Nat.le_of_ble_eq_true rfl) rfl rfl ?_
      refine x_aload_n (i := 21) (pc' := 37) rfl rfl rfl rfl ?_
      refine x_aload_n (i := 22) (pc' := 38) rfl rfl rfl rfl ?_
      refine m_getf (i := 23) (pc' := 41) rfl rfl flX5_13 (sh8 G) rfl rfl ?_
      refine x_aload_n (i := 24) (pc' := 42) rfl rfl rfl rfl ?_
      refine m_getf (i := 25) (pc' := 45) rfl rfl flX5_17 (sh8 G) rfl rfl ?_
      rw [e2]
      refine m_aald (v := 24) (i := 26) (pc' := 46) rfl rfl (by omega) e.symm ?_
      refine m_callV (i := 27) (pc' := 49) (av := [_]) (rest := []) rfl rfl (by decide) lX5_25 (sh1 G) rfl rfl rfl rfl rfl (Nat.le_of_ble_eq_true rfl) (Nat.le_refl _) (Nat.le_refl _) (s_X9_copyFrom_1_24 ?_)
      dsimp only [psh]
      refine x_aload_n (i := 28) (pc' := 50) rfl rfl rfl rfl ?_
      refine m_getf (i := 29) (pc' := 53) rfl rfl flX5_21 (sh8 G) rfl rfl ?_
      rw [e4]
      exact m_ireturn (i := 30) rfl rfl (hQ)
    · have e : 10 + 7 * nx.toNat = 31 := (by rw [h]; rfl)
      rw [e] at hQ
      have e4 := e3 (stm m 8 1 nx) (m 8 2 - 1) 31 (by omega)
      refine x_aload_n (i := 5) (pc' := 11) rfl rfl rfl rfl ?_
      refine x_aload_n (i := 6) (pc' := 12) rfl rfl rfl rfl ?_
      refine m_getf (i := 7) (pc' := 15) rfl rfl flX5_17 (sh8 G) rfl rfl ?_
      refine x_bipush (i := 8) (pc' := 17) rfl rfl (by decide) ?_
      refine x_iadd (i := 9) (pc' := 18) rfl rfl ?_
      refine x_iconst (i := 10) (pc' := 19) rfl rfl ?_
      refine x_isub (i := 11) (pc' := 20) rfl rfl ?_
      refine x_bipush (i := 12) (pc' := 22) rfl rfl (by decide) ?_
      refine x_irem (i := 13) (pc' := 23) rfl rfl ⟨by omega, by omega⟩ ⟨by omega, by omega⟩ (by omega) (by omega) ?_
      rw [hnx]
      refine m_putf (kz := 1) (i := 14) (pc' := 26) rfl rfl flX5_17 (sh8 G) (fun _ => rfl) rfl (Nat.le_of_ble_eq_true rfl) rfl rfl ?_
      refine x_aload_n (i := 15) (pc' := 27) rfl rfl rfl rfl ?_
      refine x_dup (i := 16) (pc' := 28) rfl rfl rfl ?_
      refine m_getf (i := 17) (pc' := 31) rfl rfl flX5_21 (sh8 G) rfl rfl ?_
      rw [e1]
      refine x_iconst (i := 18) (pc' := 32) rfl rfl ?_
      refine x_isub (i := 19) (pc' := 33) rfl rfl ?_
      refine m_putf (kz := 2) (i := 20) (pc' := 36) rfl rfl flX5_21 (sh8 G) (fun _ => rfl) rfl (Nat.le_of_ble_eq_true rfl) rfl rfl ?_
      refine x_aload_n (i := 21) (pc' := 37) rfl rfl rfl rfl ?_
      refine x_aload_n (i := 22) (pc' := 38) rfl rfl rfl rfl ?_
      refine m_getf (i := 23) (pc' := 41) rfl rfl flX5_13 (sh8 G) rfl rfl ?_
      refine x_aload_n (i := 24) (pc' := 42) rfl rfl rfl rfl ?_
      refine m_getf (i := 25) (pc' := 45) rfl rfl flX5_17 (sh8 G) rfl rfl ?_
      rw [e2]
      refine m_aald (v := 31) (i := 26) (pc' := 46) rfl rfl (by omega) e.symm ?_
      refine m_callV (i := 27) (pc' := 49) (av := [_]) (rest := []) rfl rfl (by decide) lX5_25 (sh1 G) rfl rfl rfl rfl rfl (Nat.le_of_ble_eq_true rfl) (Nat.le_refl _) (Nat.le_refl _) (s_X9_copyFrom_1_31 ?_)
      dsimp only [psh]
      refine x_aload_n (i := 28) (pc' := 50) rfl rfl rfl rfl ?_
      refine m_getf (i := 29) (pc' := 53) rfl rfl flX5_21 (sh8 G) rfl rfl ?_
      rw [e4]
      exact m_ireturn (i := 30) rfl rfl (hQ)
    · have e : 10 + 7 * nx.toNat = 38 := (by rw [h]; rfl)
      rw [e] at hQ
      have e4 := e3 (stm m 8 1 nx) (m 8 2 - 1) 38 (by omega)
      refine x_aload_n (i := 5) (pc' := 11) rfl rfl rfl rfl ?_
      refine x_aload_n (i := 6) (pc' := 12) rfl rfl rfl rfl ?_
      refine m_getf (i := 7) (pc' := 15) rfl rfl flX5_17 (sh8 G) rfl rfl ?_
      refine x_bipush (i := 8) (pc' := 17) rfl rfl (by decide) ?_
      refine x_iadd (i := 9) (pc' := 18) rfl rfl ?_
      refine x_iconst (i := 10) (pc' := 19) rfl rfl ?_
      refine x_isub (i := 11) (pc' := 20) rfl rfl ?_
      refine x_bipush (i := 12) (pc' := 22) rfl rfl (by decide) ?_
      refine x_irem (i := 13) (pc' := 23) rfl rfl ⟨by omega, by omega⟩ ⟨by omega, by omega⟩ (by omega) (by omega) ?_
      rw [hnx]
      refine m_putf (kz := 1) (i := 14) (pc' := 26) rfl rfl flX5_17 (sh8 G) (fun _ => rfl) rfl (Nat.le_of_ble_eq_true rfl) rfl rfl ?_
      refine x_aload_n (i := 15) (pc' := 27) rfl rfl rfl rfl ?_
      refine x_dup (i := 16) (pc' := 28) rfl rfl rfl ?_
      refine m_getf (i := 17) (pc' := 31) rfl rfl flX5_21 (sh8 G) rfl rfl ?_
      rw [e1]
      refine x_iconst (i := 18) (pc' := 32) rfl rfl ?_
      refine x_isub (i := 19) (pc' := 33) rfl rfl ?_
      refine m_putf (kz := 2) (i := 20) (pc' := 36) rfl rfl flX5_21 (sh8 G) (fun _ => rfl) rfl (Nat.le_of_ble_eq_true rfl) rfl rfl ?_
      refine x_aload_n (i := 21) (pc' := 37) rfl rfl rfl rfl ?_
      refine x_aload_n (i := 22) (pc' := 38) rfl rfl rfl rfl ?_
      refine m_getf (i := 23) (pc' := 41) rfl rfl flX5_13 (sh8 G) rfl rfl ?_
      refine x_aload_n (i := 24) (pc' := 42) rfl rfl rfl rfl ?_
      refine m_getf (i := 25) (pc' := 45) rfl rfl flX5_17 (sh8 G) rfl rfl ?_
      rw [e2]
      refine m_aald (v := 38) (i := 26) (pc' := 46) rfl rfl (by omega) e.symm ?_
      refine m_callV (i := 27) (pc' := 49) (av := [_]) (rest := []) rfl rfl (by decide) lX5_25 (sh1 G) rfl rfl rfl rfl rfl (Nat.le_of_ble_eq_true rfl) (Nat.le_refl _) (Nat.le_refl _) (s_X9_copyFrom_1_38 ?_)
      dsimp only [psh]
      refine x_aload_n (i := 28) (pc' := 50) rfl rfl rfl rfl ?_
      refine m_getf (i := 29) (pc' := 53) rfl rfl flX5_21 (sh8 G) rfl rfl ?_
      rw [e4]
      exact m_ireturn (i := 30) rfl rfl (hQ)
    · have e : 10 + 7 * nx.toNat = 45 := (by rw [h]; rfl)
      rw [e] at hQ
      have e4 := e3 (stm m 8 1 nx) (m 8 2 - 1) 45 (by omega)
      refine x_aload_n (i := 5) (pc' := 11) rfl rfl rfl rfl ?_
      refine x_aload_n (i := 6) (pc' := 12) rfl rfl rfl rfl ?_
      refine m_getf (i := 7) (pc' := 15) rfl rfl flX5_17 (sh8 G) rfl rfl ?_
      refine x_bipush (i := 8) (pc' := 17) rfl rfl (by decide) ?_
      refine x_iadd (i := 9) (pc' := 18) rfl rfl ?_
      refine x_iconst (i := 10) (pc' := 19) rfl rfl ?_
      refine x_isub (i := 11) (pc' := 20) rfl rfl ?_
      refine x_bipush (i := 12) (pc' := 22) rfl rfl (by decide) ?_
      refine x_irem (i := 13) (pc' := 23) rfl rfl ⟨by omega, by omega⟩ ⟨by omega, by omega⟩ (by omega) (by omega) ?_
      rw [hnx]
      refine m_putf (kz := 1) (i := 14) (pc' := 26) rfl rfl flX5_17 (sh8 G) (fun _ => rfl) rfl (Nat.le_of_ble_eq_true rfl) rfl rfl ?_
      refine x_aload_n (i := 15) (pc' := 27) rfl rfl rfl rfl ?_
      refine x_dup (i := 16) (pc' := 28) rfl rfl rfl ?_
      refine m_getf (i := 17) (pc' := 31) rfl rfl flX5_21 (sh8 G) rfl rfl ?_
      rw [e1]
      refine x_iconst (i := 18) (pc' := 32) rfl rfl ?_
      refine x_isub (i := 19) (pc' := 33) rfl rfl ?_
      refine m_putf (kz := 2) (i := 20) (pc' := 36) rfl rfl flX5_21 (sh8 G) (fun _ => rfl) rfl (Nat.le_of_ble_eq_true rfl) rfl rfl ?_
      refine x_aload_n (i := 21) (pc' := 37) rfl rfl rfl rfl ?_
      refine x_aload_n (i := 22) (pc' := 38) rfl rfl rfl rfl ?_
      refine m_getf (i := 23) (pc' := 41) rfl rfl flX5_13 (sh8 G) rfl rfl ?_
      refine x_aload_n (i := 24) (pc' := 42) rfl rfl rfl rfl ?_
      refine m_getf (i := 25) (pc' := 45) rfl rfl flX5_17 (sh8 G) rfl rfl ?_
      rw [e2]
      refine m_aald (v := 45) (i := 26) (pc' := 46) rfl rfl (by omega) e.symm ?_
      refine m_callV (i := 27) (pc' := 49) (av := [_]) (rest := []) rfl rfl (by decide) lX5_25 (sh1 G) rfl rfl rfl rfl rfl (Nat.le_of_ble_eq_true rfl) (Nat.le_refl _) (Nat.le_refl _) (s_X9_copyFrom_1_45 ?_)
      dsimp only [psh]
      refine x_aload_n (i := 28) (pc' := 50) rfl rfl rfl rfl ?_
      refine m_getf (i := 29) (pc' := 53) rfl rfl flX5_21 (sh8 G) rfl rfl ?_
      rw [e4]
      exact m_ireturn (i := 30) rfl rfl (hQ)
  · skip
    refine x_bipush (i := 3) (pc' := 9) rfl rfl (by decide) ?_
    exact m_ireturn (i := 4) rfl rfl (by rw [if_pos (by assumption), if_pos (by assumption)] at hQ; exact hQ)

theorem s_X9_signProperty {G : GG} {m : Mem} {Q : Option Value → Mem → Prop} {a b : Int} (hM : MR m) (hs : SN m) (ha : 0 ≤ a ∧ a ≤ 16) (hb : 0 ≤ b ∧ b ≤ 5) (hQ : Q (some (.int (J (if b = 5 then co m a else m 3 (a * 5 + b))))) m) : CM G 3 mX9_signProperty [.ref (G.2.2.2 1), .int (J (a)), .int (J (b))] m Q := by
  refine CM.of dkX9_signProperty (Or.inl rfl) [some _, some _, some _] rfl (Nat.le_of_ble_eq_true rfl) ?_
  refine x_iload_n (i := 0) (pc' := 1) rfl rfl rfl rfl ?_
  refine x_iconst (i := 1) (pc' := 2) rfl rfl ?_
  refine x_icmpne (i := 2) (pc' := 5) (tgt := 16) rfl rfl (by decide) ⟨by omega, by omega⟩ ⟨by omega, by omega⟩ (fun c1 => ?_) (fun c1 => ?_)
  · skip
    refine x_aload_n (i := 8) (pc' := 17) rfl rfl rfl rfl ?_
    refine m_getf (i := 9) (pc' := 20) rfl rfl flX9_12 (sh1 G) rfl rfl ?_
    refine x_iload_n (i := 10) (pc' := 21) rfl rfl rfl rfl ?_
    refine x_iload_n (i := 11) (pc' := 22) rfl rfl rfl rfl ?_
    refine m_callV (i := 12) (pc' := 25) (av := [_, _]) (rest := []) rfl rfl (by decide) lX9_46 (sh2 G) rfl rfl rfl rfl rfl (Nat.le_of_ble_eq_true rfl) (Nat.le_refl _) (Nat.le_refl _) (s_X3_trait (by omega) (by omega) ?_)
    dsimp only [psh]
    exact m_ireturn (i := 13) rfl rfl (by (repeat' split at hQ) <;> first | exact hQ | (exfalso; omega))
  · skip
    refine x_aload_n (i := 3) (pc' := 6) rfl rfl rfl rfl ?_
    refine m_getf (i := 4) (pc' := 9) rfl rfl flX9_21 (sh1 G) rfl rfl ?_
    refine x_iload_n (i := 5) (pc' := 10) rfl rfl rfl rfl ?_
    refine m_callV (i := 6) (pc' := 13) (av := [_]) (rest := []) rfl rfl (by decide) lX9_42 (sh5 G) rfl rfl rfl rfl rfl (Nat.le_of_ble_eq_true rfl) (Nat.le_refl _) (Nat.le_refl _) (s_X8_countOf hM hs (by omega) ?_)
    dsimp only [psh]
    refine x_goto (i := 7) (pc' := 25) rfl (by decide) ?_
    exact m_ireturn (i := 13) rfl rfl (by (repeat' split at hQ) <;> first | exact hQ | (exfalso; omega))
theorem s_X9_sortOfWord {G : GG} {m : Mem} {Q : Option Value → Mem → Prop} {a : Int} (hs : SN m) (hwd : ∀ i, 0 ≤ i → i < m 5 1 → 0 ≤ m 6 (i * 3 + 0) ∧ m 6 (i * 3 + 0) < 16) (ha : 0 ≤ a ∧ a < m 5 1) (hQ : Q (some (.int (J (sw m a)))) m) : CM G 2 mX9_sortOfWord [.ref (G.2.2.2 1), .int (J (a))] m Q := by
  refine CM.of dkX9_sortOfWord (Or.inl rfl) [some _, some _] rfl (Nat.le_of_ble_eq_true rfl) ?_
  have hw := hwd a (by omega) (by omega)
  refine x_aload_n (i := 0) (pc' := 1) rfl rfl rfl rfl ?_
  refine m_getf (i := 1) (pc' := 4) rfl rfl flX9_12 (sh1 G) rfl rfl ?_
  refine x_aload_n (i := 2) (pc' := 5) rfl rfl rfl rfl ?_
  refine m_getf (i := 3) (pc' := 8) rfl rfl flX9_21 (sh1 G) rfl rfl ?_
  refine x_iload_n (i := 4) (pc' := 9) rfl rfl rfl rfl ?_
  refine m_callV (i := 5) (pc' := 12) (av := [_]) (rest := [_]) rfl rfl (by decide) lX9_50 (sh5 G) rfl rfl rfl rfl rfl (Nat.le_of_ble_eq_true rfl) (Nat.le_refl _) (Nat.le_refl _) (s_X8_signIn hs (by omega) ?_)
  dsimp only [psh]
  refine x_iconst (i := 6) (pc' := 13) rfl rfl ?_
  refine m_callV (i := 7) (pc' := 16) (av := [_, _]) (rest := []) rfl rfl (by decide) lX9_46 (sh2 G) rfl rfl rfl rfl rfl (Nat.le_of_ble_eq_true rfl) (Nat.le_refl _) (Nat.le_refl _) (s_X3_trait (by omega) (by omega) ?_)
  dsimp only [psh]
  exact m_ireturn (i := 8) rfl rfl (hQ)
theorem co_nn (m : Mem) (k : Int) : 0 ≤ co m k ∧ co m k ≤ (m 5 1).toNat := by
  have h : ∀ (n : Nat) (j x : Int), 0 ≤ x → 0 ≤ it (fun i x => if m 6 (i * 3 + 0) = k then x + 1 else x) j n x ∧ it (fun i x => if m 6 (i * 3 + 0) = k then x + 1 else x) j n x ≤ x + n := by
    intro n
    induction n with
    | zero => intro j x h; exact ⟨h, by show x ≤ x + 0; omega⟩
    | succ n ih =>
      intro j x h
      have := ih (j + 1) (if m 6 (j * 3 + 0) = k then x + 1 else x) (by split <;> omega)
      refine ⟨this.1, Int.le_trans this.2 ?_⟩
      split <;> omega
  have := h (m 5 1).toNat 0 0 (by omega)
  unfold co
  omega
theorem rnm_2 (m : Mem) (k : Int) : rnm m k 2 = m 2 := by
  have h : ∀ (n : Nat) (j : Int) (x : Mem), it (fun i (x : Mem) => if k < x 6 (i * 3) then stm x 6 (i * 3) (x 6 (i * 3) - 1) else x) j n x 2 = x 2 := by
    intro n
    induction n with
    | zero => intro j x; rfl
    | succ n ih =>
      intro j x
      rw [it, ih]
      split <;> rfl
  exact h _ _ _
theorem rnm_MR {m : Mem} (hM : MR m) (k : Int) (h0 : ∀ i, 0 ≤ i → i < m 5 1 → 0 ≤ m 6 (i * 3)) (hs : SN m) : MR (rnm m k) := by
  have h : ∀ (n : Nat) (j : Int) (x : Mem), 0 ≤ j → MR x → (∀ i, j ≤ i → i < j + n → 0 ≤ x 6 (i * 3)) → MR (it (fun i (x : Mem) => if k < x 6 (i * 3) then stm x 6 (i * 3) (x 6 (i * 3) - 1) else x) j n x) := by
    intro n
    induction n with
    | zero => intro j x _ h _; exact h
    | succ n ih =>
      intro j x hj h h0
      have h1 := h0 j (by omega) (by omega)
      have h2 := h 6 (j * 3)
      rw [it]
      split
      · exact ih _ _ (by omega) (h.st (by omega)) (fun i a b => by rw [stm_ix _ _ _ (by omega)]; exact h0 i (by omega) (by omega))
      · exact ih _ _ (by omega) h (fun i a b => h0 i (by omega) (by omega))
  have h1 := hs.1
  exact h _ _ _ (by omega) hM (fun i a b => h0 i (by omega) (by omega))
theorem s_X9_removeSign {G : GG} {m : Mem} {Q : Option Value → Mem → Prop} {k : Int} (hM : MR m) (hn : CN m) (hs : SN m) (hlo : ∀ i, 0 ≤ i → i < m 5 1 → 0 ≤ m 6 (i * 3)) (ha : rg k) (hQ : Q (some (.int (J (if 0 ≤ k ∧ k < m 2 2 then (if 0 < co m k then -3 else m 2 2 - 1) else -2)))) (if (0 ≤ k ∧ k < m 2 2) ∧ co m k ≤ 0 then rmm (rnm m k) k else m)) : CM G 3 mX9_removeSign [.ref (G.2.2.2 1), .int (J (k))] m Q := by
  refine CM.of dkX9_removeSign (Or.inl rfl) [some _, some _] rfl (Nat.le_of_ble_eq_true rfl) ?_
  have hn0 := hn.1; have hn1 := hn.2
  have hs0 := hs.1; have hs1 := hs.2
  have hc := co_nn m k
  have e2 := congrFun (rnm_2 m k) 2
  refine x_aload_n (i := 0) (pc' := 1) rfl rfl rfl rfl ?_
  refine m_getf (i := 1) (pc' := 4) rfl rfl flX9_12 (sh1 G) rfl rfl ?_
  refine x_iload_n (i := 2) (pc' := 5) rfl rfl rfl rfl ?_
  refine m_callV (i := 3) (pc' := 8) (av := [_]) (rest := []) rfl rfl (by decide) lX9_53 (sh2 G) rfl rfl rfl rfl rfl (Nat.le_of_ble_eq_true rfl) (Nat.le_refl _) (Nat.le_refl _) (s_X3_holds hn (by omega) ?_)
  dsimp only [psh]
  refine x_ifne (i := 4) (pc' := 11) (tgt := 14) rfl rfl (by decide) (by (repeat' split at *) <;> omega) (fun c1 => ?_) (fun c1 => ?_)
  · skip
    refine x_aload_n (i := 7) (pc' := 15) rfl rfl rfl rfl ?_
    refine m_getf (i := 8) (pc' := 18) rfl rfl flX9_21 (sh1 G) rfl rfl ?_
    refine x_iload_n (i := 9) (pc' := 19) rfl rfl rfl rfl ?_
    refine m_callV (i := 10) (pc' := 22) (av := [_]) (rest := []) rfl rfl (by decide) lX9_42 (sh5 G) rfl rfl rfl rfl rfl (Nat.le_of_ble_eq_true rfl) (Nat.le_refl _) (Nat.le_refl _) (s_X8_countOf hM hs (by omega) ?_)
    dsimp only [psh]
    refine x_ifle (i := 11) (pc' := 25) (tgt := 28) rfl rfl (by decide) (by (repeat' split at *) <;> omega) (fun c2 => ?_) (fun c2 => ?_)
    · skip
      refine x_aload_n (i := 14) (pc' := 29) rfl rfl rfl rfl ?_
      refine m_getf (i := 15) (pc' := 32) rfl rfl flX9_21 (sh1 G) rfl rfl ?_
      refine x_iload_n (i := 16) (pc' := 33) rfl rfl rfl rfl ?_
      refine m_callV (i := 17) (pc' := 36) (av := [_]) (rest := []) rfl rfl (by decide) lX9_57 (sh5 G) rfl rfl rfl rfl rfl (Nat.le_of_ble_eq_true rfl) (Nat.le_refl _) (Nat.le_refl _) (s_X8_renumberAbove hM hs (by omega) hlo ?_)
      dsimp only [psh]
      refine x_aload_n (i := 18) (pc' := 37) rfl rfl rfl rfl ?_
      refine m_getf (i := 19) (pc' := 40) rfl rfl flX9_12 (sh1 G) rfl rfl ?_
      refine x_iload_n (i := 20) (pc' := 41) rfl rfl rfl rfl ?_
      refine m_callV (i := 21) (pc' := 44) (av := [_]) (rest := []) rfl rfl (by decide) lX9_61 (sh2 G) rfl rfl rfl rfl rfl (Nat.le_of_ble_eq_true rfl) (Nat.le_refl _) (Nat.le_refl _) (s_X3_remove (rnm_MR hM k hlo hs) (by unfold CN; rw [e2]; exact hn) (by omega) ?_)
      dsimp only [psh]
      rw [e2]
      exact m_ireturn (i := 22) rfl rfl (by (repeat' split at hQ) <;> (repeat' split) <;> first | exact hQ | (exfalso; omega))
    · skip
      refine x_bipush (i := 12) (pc' := 27) rfl rfl (by decide) ?_
      exact m_ireturn (i := 13) rfl rfl (by (repeat' split at hQ) <;> (repeat' split) <;> first | exact hQ | (exfalso; omega))
  · skip
    refine x_bipush (i := 5) (pc' := 13) rfl rfl (by decide) ?_
    exact m_ireturn (i := 6) rfl rfl (by (repeat' split at hQ) <;> (repeat' split) <;> first | exact hQ | (exfalso; omega))
theorem s_X9_addWord {G : GG} {m : Mem} {Q : Option Value → Mem → Prop} {k f t : Int} (hn : CN m) (hs : SN m) (h1 : rg k) (h2 : rg f) (h3 : rg t) (hQ : Q (some (.int (J (if (0 ≤ k ∧ k < m 2 2) ∧ (-1 ≤ f ∧ f ≤ 5) ∧ (-1 ≤ t ∧ t ≤ 5) then (if m 5 1 < 16 then m 5 1 else -4) else -2)))) (if ((0 ≤ k ∧ k < m 2 2) ∧ (-1 ≤ f ∧ f ≤ 5) ∧ (-1 ≤ t ∧ t ≤ 5)) ∧ m 5 1 < 16 then apw m k f t else m)) : CM G 3 mX9_addWord [.ref (G.2.2.2 1), .int (J (k)), .int (J (f)), .int (J (t))] m Q := by
  refine CM.of dkX9_addWord (Or.inl rfl) [some _, some _, some _, some _] rfl (Nat.le_of_ble_eq_true rfl) ?_
  have hn0 := hn.1; have hn1 := hn.2
  have hs0 := hs.1; have hs1 := hs.2
  refine x_aload_n (i := 0) (pc' := 1) rfl rfl rfl rfl ?_
  refine m_getf (i := 1) (pc' := 4) rfl rfl flX9_12 (sh1 G) rfl rfl ?_
  refine x_iload_n (i := 2) (pc' := 5) rfl rfl rfl rfl ?_
  refine m_callV (i := 3) (pc' := 8) (av := [_]) (rest := []) rfl rfl (by decide) lX9_53 (sh2 G) rfl rfl rfl rfl rfl (Nat.le_of_ble_eq_true rfl) (Nat.le_refl _) (Nat.le_refl _) (s_X3_holds hn (by omega) ?_)
  dsimp only [psh]
  refine x_ifeq (i := 4) (pc' := 11) (tgt := 29) rfl rfl (by decide) (by (repeat' split at *) <;> omega) (fun c1 => ?_) (fun c1 => ?_)
  · skip
    refine x_bipush (i := 15) (pc' := 31) rfl rfl (by decide) ?_
    exact m_ireturn (i := 16) rfl rfl (by (repeat' split at hQ) <;> (repeat' split) <;> first | exact hQ | (exfalso; omega))
  · skip
    refine x_iload_n (i := 5) (pc' := 12) rfl rfl rfl rfl ?_
    refine x_iconst (i := 6) (pc' := 13) rfl rfl ?_
    refine x_iconst (i := 7) (pc' := 14) rfl rfl ?_
    refine m_callS (i := 8) (pc' := 17) (av := [_, _, _]) (rest := []) rfl rfl (by decide) lX9_64 rfl rfl (Nat.le_of_ble_eq_true rfl) (Nat.le_refl _) (Nat.le_refl _) (s_X11_isWithin (by omega) (by omega) (by omega) ?_)
    dsimp only [psh]
    refine x_ifeq (i := 9) (pc' := 20) (tgt := 29) rfl rfl (by decide) (by (repeat' split at *) <;> omega) (fun c2 => ?_) (fun c2 => ?_)
    · skip
      refine x_bipush (i := 15) (pc' := 31) rfl rfl (by decide) ?_
      exact m_ireturn (i := 16) rfl rfl (by (repeat' split at hQ) <;> (repeat' split) <;> first | exact hQ | (exfalso; omega))
    · skip
      refine x_iload_n (i := 10) (pc' := 21) rfl rfl rfl rfl ?_
      refine x_iconst (i := 11) (pc' := 22) rfl rfl ?_
      refine x_iconst (i := 12) (pc' := 23) rfl rfl ?_
      refine m_callS (i := 13) (pc' := 26) (av := [_, _, _]) (rest := []) rfl rfl (by decide) lX9_64 rfl rfl (Nat.le_of_ble_eq_true rfl) (Nat.le_refl _) (Nat.le_refl _) (s_X11_isWithin (by omega) (by omega) (by omega) ?_)
      dsimp only [psh]
      refine x_ifne (i := 14) (pc' := 29) (tgt := 32) rfl rfl (by decide) (by (repeat' split at *) <;> omega) (fun c3 => ?_) (fun c3 => ?_)
      · skip
        refine x_aload_n (i := 17) (pc' := 33) rfl rfl rfl rfl ?_
        refine m_getf (i := 18) (pc' := 36) rfl rfl flX9_21 (sh1 G) rfl rfl ?_
        refine x_iload_n (i := 19) (pc' := 37) rfl rfl rfl rfl ?_
        refine x_iload_n (i := 20) (pc' := 38) rfl rfl rfl rfl ?_
        refine x_iload_n (i := 21) (pc' := 39) rfl rfl rfl rfl ?_
        refine m_callV (i := 22) (pc' := 42) (av := [_, _, _]) (rest := []) rfl rfl (by decide) lX9_68 (sh5 G) rfl rfl rfl rfl rfl (Nat.le_of_ble_eq_true rfl) (Nat.le_refl _) (Nat.le_refl _) (s_X8_append hs ?_)
        dsimp only [psh]
        exact m_ireturn (i := 23) rfl rfl (by (repeat' split at hQ) <;> (repeat' split) <;> first | exact hQ | (exfalso; omega))
      · skip
        refine x_bipush (i := 15) (pc' := 31) rfl rfl (by decide) ?_
        exact m_ireturn (i := 16) rfl rfl (by (repeat' split at hQ) <;> (repeat' split) <;> first | exact hQ | (exfalso; omega))
