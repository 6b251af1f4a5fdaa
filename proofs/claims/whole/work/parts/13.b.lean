def fg (a b : Int) : Int := if a = b then 0 else if a / 2 = b / 2 then 1 else if a / 4 = b / 4 then 2 else 3
def gp (p a b : Int) : Int := if p = 0 then pop (ix a b) else if p = 1 then ab (a % 4 - b % 4) + ab (a / 4 - b / 4) else if p = 2 then mn (ab (a - b)) (8 - ab (a - b)) else fg a b
def ds (m : Mem) (a b : Int) : Int := it (fun p x => x + m 4 p * gp p (m 3 (a * 5 + p)) (m 3 (b * 5 + p))) 0 4 0
def df (m : Mem) (a b : Int) : Int := it (fun p x => if m 3 (a * 5 + p) = m 3 (b * 5 + p) then x else io x (1 * 2 ^ p.toNat)) 0 4 0
def RV (m : Mem) (a : Int) : Prop := ∀ p, 0 ≤ p → p ≤ 3 → 0 ≤ m 3 (a * 5 + p) ∧ m 3 (a * 5 + p) ≤ 7
def WT (m : Mem) : Prop := ∀ p, 0 ≤ p → p ≤ 3 → 0 ≤ m 4 p ∧ m 4 p ≤ 5
theorem ab_le {x n : Int} (h : -n ≤ x ∧ x ≤ n) : 0 ≤ ab x ∧ ab x ≤ n := by unfold ab; split <;> omega
theorem pop_le (z : Int) : 0 ≤ pop z ∧ pop z ≤ 4 := by unfold pop; omega
theorem gp_le {p a b : Int} (ha : 0 ≤ a ∧ a ≤ 7) (hb : 0 ≤ b ∧ b ≤ 7) : 0 ≤ gp p a b ∧ gp p a b ≤ 8 := by
  unfold gp
  split
  · have := pop_le (ix a b); omega
  · split
    · have h1 := ab_le (x := a % 4 - b % 4) (n := 3) (by omega)
      have h2 := ab_le (x := a / 4 - b / 4) (n := 1) (by omega)
      omega
    · split
      · have h1 := ab_le (x := a - b) (n := 7) (by omega)
        unfold mn; split <;> omega
      · unfold fg; (repeat' split) <;> omega
theorem mul_le {w g : Int} (hw : 0 ≤ w ∧ w ≤ 5) (hg : 0 ≤ g ∧ g ≤ 8) : 0 ≤ w * g ∧ w * g ≤ 40 := by
  refine ⟨Int.mul_nonneg hw.1 hg.1, ?_⟩
  have h1 : w * g ≤ 5 * g := Int.mul_le_mul_of_nonneg_right hw.2 hg.1
  omega
theorem ds_le {m : Mem} {a b : Int} (ha : RV m a) (hb : RV m b) (hw : WT m) : 0 ≤ ds m a b ∧ ds m a b ≤ 160 := by
  have k : ∀ p, 0 ≤ p → p ≤ 3 → 0 ≤ m 4 p * gp p (m 3 (a * 5 + p)) (m 3 (b * 5 + p)) ∧ m 4 p * gp p (m 3 (a * 5 + p)) (m 3 (b * 5 + p)) ≤ 40 := fun p h1 h2 => mul_le (hw p h1 h2) (gp_le (ha p h1 h2) (hb p h1 h2))
  have k0 := k 0 (by omega) (by omega)
  have k1 := k 1 (by omega) (by omega)
  have k2 := k 2 (by omega) (by omega)
  have k3 := k 3 (by omega) (by omega)
  simp only [ds, it]
  show 0 ≤ 0 + m 4 0 * gp 0 (m 3 (a * 5 + 0)) (m 3 (b * 5 + 0)) + m 4 1 * gp 1 (m 3 (a * 5 + 1)) (m 3 (b * 5 + 1)) + m 4 2 * gp 2 (m 3 (a * 5 + 2)) (m 3 (b * 5 + 2)) + m 4 3 * gp 3 (m 3 (a * 5 + 3)) (m 3 (b * 5 + 3)) ∧ 0 + m 4 0 * gp 0 (m 3 (a * 5 + 0)) (m 3 (b * 5 + 0)) + m 4 1 * gp 1 (m 3 (a * 5 + 1)) (m 3 (b * 5 + 1)) + m 4 2 * gp 2 (m 3 (a * 5 + 2)) (m 3 (b * 5 + 2)) + m 4 3 * gp 3 (m 3 (a * 5 + 3)) (m 3 (b * 5 + 3)) ≤ 160
  omega
theorem s_X3_faceGap {G : GG} {m : Mem} {Q : Option Value → Mem → Prop} {a b : Int} (ha : 0 ≤ a ∧ a ≤ 7) (hb : 0 ≤ b ∧ b ≤ 7) (hQ : Q (some (.int (J (fg a b)))) m) : CM G 0 mX3_faceGap [.int (J (a)), .int (J (b))] m Q := by
  refine CM.of dkX3_faceGap (Or.inl rfl) [some _, some _] rfl (Nat.le_of_ble_eq_true rfl) ?_
  refine x_iload_n (i := 0) (pc' := 1) rfl rfl rfl rfl ?_
  refine x_iload_n (i := 1) (pc' := 2) rfl rfl rfl rfl ?_
  refine x_icmpne (i := 2) (pc' := 5) (tgt := 7) rfl rfl (by decide) ⟨by omega, by omega⟩ ⟨by omega, by omega⟩ (fun c1 => ?_) (fun c1 => ?_)
  · skip
    refine x_iload_n (i := 5) (pc' := 8) rfl rfl rfl rfl ?_
    refine x_iconst (i := 6) (pc' := 9) rfl rfl ?_
    refine x_idiv (i := 7) (pc' := 10) rfl rfl ⟨by omega, by omega⟩ ⟨by omega, by omega⟩ (by omega) (by omega) ?_
    refine x_iload_n (i := 8) (pc' := 11) rfl rfl rfl rfl ?_
    refine x_iconst (i := 9) (pc' := 12) rfl rfl ?_
    refine x_idiv (i := 10) (pc' := 13) rfl rfl ⟨by omega, by omega⟩ ⟨by omega, by omega⟩ (by omega) (by omega) ?_
    refine x_icmpne (i := 11) (pc' := 16) (tgt := 18) rfl rfl (by decide) ⟨by omega, by omega⟩ ⟨by omega, by omega⟩ (fun c2 => ?_) (fun c2 => ?_)
    · skip
      refine x_iload_n (i := 14) (pc' := 19) rfl rfl rfl rfl ?_
      refine x_iconst (i := 15) (pc' := 20) rfl rfl ?_
      refine x_idiv (i := 16) (pc' := 21) rfl rfl ⟨by omega, by omega⟩ ⟨by omega, by omega⟩ (by omega) (by omega) ?_
      refine x_iload_n (i := 17) (pc' := 22) rfl rfl rfl rfl ?_
      refine x_iconst (i := 18) (pc' := 23) rfl rfl ?_
      refine x_idiv (i := 19) (pc' := 24) rfl rfl ⟨by omega, by omega⟩ ⟨by omega, by omega⟩ (by omega) (by omega) ?_
      refine x_icmpne (i := 20) (pc' := 27) (tgt := 31) rfl rfl (by decide) ⟨by omega, by omega⟩ ⟨by omega, by omega⟩ (fun c3 => ?_) (fun c3 => ?_)
      · skip
        refine x_iconst (i := 23) (pc' := 32) rfl rfl ?_
        exact m_ireturn (i := 24) rfl rfl (by unfold fg at hQ; (repeat' split at hQ) <;> first | exact hQ | (exfalso; omega))
      · skip
        refine x_iconst (i := 21) (pc' := 28) rfl rfl ?_
        refine x_goto (i := 22) (pc' := 32) rfl (by decide) ?_
        exact m_ireturn (i := 24) rfl rfl (by unfold fg at hQ; (repeat' split at hQ) <;> first | exact hQ | (exfalso; omega))
    · skip
      refine x_iconst (i := 12) (pc' := 17) rfl rfl ?_
      exact m_ireturn (i := 13) rfl rfl (by unfold fg at hQ; (repeat' split at hQ) <;> first | exact hQ | (exfalso; omega))
  · skip
    refine x_iconst (i := 3) (pc' := 6) rfl rfl ?_
    exact m_ireturn (i := 4) rfl rfl (by unfold fg at hQ; (repeat' split at hQ) <;> first | exact hQ | (exfalso; omega))
theorem s_X3_gap {G : GG} {m : Mem} {Q : Option Value → Mem → Prop} {p a b : Int} (hp : 0 ≤ p ∧ p ≤ 3) (ha : 0 ≤ a ∧ a ≤ 16) (hb : 0 ≤ b ∧ b ≤ 16) (h1 : 0 ≤ m 3 (a * 5 + p) ∧ m 3 (a * 5 + p) ≤ 7) (h2 : 0 ≤ m 3 (b * 5 + p) ∧ m 3 (b * 5 + p) ≤ 7) (hQ : Q (some (.int (J (gp p (m 3 (a * 5 + p)) (m 3 (b * 5 + p)))))) m) : CM G 1 mX3_gap [.ref (G.2.2.2 2), .int (J (p)), .int (J (a)), .int (J (b))] m Q := by
  refine CM.of dkX3_gap (Or.inl rfl) [some _, some _, some _, some _, none, none] rfl (Nat.le_of_ble_eq_true rfl) ?_
  have hx := ix_le h1 h2
  have hab := ab_le (x := m 3 (a * 5 + p) - m 3 (b * 5 + p)) (n := 7) (by omega)
  refine x_aload_n (i := 0) (pc' := 1) rfl rfl rfl rfl ?_
  refine x_iload_n (i := 1) (pc' := 2) rfl rfl rfl rfl ?_
  refine x_iload_n (i := 2) (pc' := 3) rfl rfl rfl rfl ?_
  refine m_callV (i := 3) (pc' := 6) (av := [_, _]) (rest := []) rfl rfl (by decide) lX3_59 (sh2 G) rfl rfl rfl rfl rfl (Nat.le_of_ble_eq_true rfl) (Nat.le_refl _) (Nat.le_refl _) (s_X3_trait (by omega) (by omega) ?_)
  dsimp only [psh]
  refine x_istore (L' := [some _, some _, some _, some _, some _, none]) (i := 4) (pc' := 8) rfl rfl rfl (by decide) rfl ?_
  refine x_aload_n (i := 5) (pc' := 9) rfl rfl rfl rfl ?_
  refine x_iload_n (i := 6) (pc' := 10) rfl rfl rfl rfl ?_
  refine x_iload_n (i := 7) (pc' := 11) rfl rfl rfl rfl ?_
  refine m_callV (i := 8) (pc' := 14) (av := [_, _]) (rest := []) rfl rfl (by decide) lX3_59 (sh2 G) rfl rfl rfl rfl rfl (Nat.le_of_ble_eq_true rfl) (Nat.le_refl _) (Nat.le_refl _) (s_X3_trait (by omega) (by omega) ?_)
  dsimp only [psh]
  refine x_istore (L' := [some _, some _, some _, some _, some _, some _]) (i := 9) (pc' := 16) rfl rfl rfl (by decide) rfl ?_
  refine x_iload_n (i := 10) (pc' := 17) rfl rfl rfl rfl ?_
  rcases (by omega : p = 0 ∨ p = 1 ∨ p = 2 ∨ (p < 0 ∨ 2 < p)) with c1 | c1 | c1 | c1
  · first | (exfalso; omega; done) | skip
    all_goals (
      refine x_tableIn (i := 11) (v := 0) (off := 27) (tgt := 44) rfl c1 ⟨by decide, by decide⟩ (by decide) (by decide) rfl (by decide) ?_
      refine x_iload (i := 12) (pc' := 46) rfl rfl rfl ?_
      refine x_iload (i := 13) (pc' := 48) rfl rfl rfl ?_
      refine x_ixor (i := 14) (pc' := 49) rfl rfl (by omega) (by omega) ?_
      refine m_callS (i := 15) (pc' := 52) (av := [_]) (rest := []) rfl rfl (by decide) lX3_75 rfl rfl (Nat.le_of_ble_eq_true rfl) (Nat.le_refl _) (Nat.le_refl _) (s_J6_bitCount_0f7a4 (by omega) ?_)
      dsimp only [psh]
      exact m_ireturn (i := 16) rfl rfl (by unfold gp at hQ; (repeat' split at hQ) <;> first | exact hQ | (exfalso; omega))
      skip)
  · first | (exfalso; omega; done) | skip
    all_goals (
      refine x_tableIn (i := 11) (v := 1) (off := 36) (tgt := 53) rfl c1 ⟨by decide, by decide⟩ (by decide) (by decide) rfl (by decide) ?_
      refine x_iload (i := 17) (pc' := 55) rfl rfl rfl ?_
      refine x_iconst (i := 18) (pc' := 56) rfl rfl ?_
      refine x_irem (i := 19) (pc' := 57) rfl rfl ⟨by omega, by omega⟩ ⟨by omega, by omega⟩ (by omega) (by omega) ?_
      refine x_iload (i := 20) (pc' := 59) rfl rfl rfl ?_
      refine x_iconst (i := 21) (pc' := 60) rfl rfl ?_
      refine x_irem (i := 22) (pc' := 61) rfl rfl ⟨by omega, by omega⟩ ⟨by omega, by omega⟩ (by omega) (by omega) ?_
      refine x_isub (i := 23) (pc' := 62) rfl rfl ?_
      refine m_callS (i := 24) (pc' := 65) (av := [_]) (rest := []) rfl rfl (by decide) lX3_81 rfl rfl (Nat.le_of_ble_eq_true rfl) (Nat.le_refl _) (Nat.le_refl _) (s_J9_abs_0f7a4 (by omega) ?_)
      dsimp only [psh]
      refine x_iload (i := 25) (pc' := 67) rfl rfl rfl ?_
      refine x_iconst (i := 26) (pc' := 68) rfl rfl ?_
      refine x_idiv (i := 27) (pc' := 69) rfl rfl ⟨by omega, by omega⟩ ⟨by omega, by omega⟩ (by omega) (by omega) ?_
      refine x_iload (i := 28) (pc' := 71) rfl rfl rfl ?_
      refine x_iconst (i := 29) (pc' := 72) rfl rfl ?_
      refine x_idiv (i := 30) (pc' := 73) rfl rfl ⟨by omega, by omega⟩ ⟨by omega, by omega⟩ (by omega) (by omega) ?_
      refine x_isub (i := 31) (pc' := 74) rfl rfl ?_
      refine m_callS (i := 32) (pc' := 77) (av := [_]) (rest := [_]) rfl rfl (by decide) lX3_81 rfl rfl (Nat.le_of_ble_eq_true rfl) (Nat.le_refl _) (Nat.le_refl _) (s_J9_abs_0f7a4 (by omega) ?_)
      dsimp only [psh]
      refine x_iadd (i := 33) (pc' := 78) rfl rfl ?_
      exact m_ireturn (i := 34) rfl rfl (by unfold gp at hQ; (repeat' split at hQ) <;> first | exact hQ | (exfalso; omega))
      skip)
  · first | (exfalso; omega; done) | skip
    all_goals (
      refine x_tableIn (i := 11) (v := 2) (off := 62) (tgt := 79) rfl c1 ⟨by decide, by decide⟩ (by decide) (by decide) rfl (by decide) ?_
      refine x_iload (i := 35) (pc' := 81) rfl rfl rfl ?_
      refine x_iload (i := 36) (pc' := 83) rfl rfl rfl ?_
      refine x_isub (i := 37) (pc' := 84) rfl rfl ?_
      refine m_callS (i := 38) (pc' := 87) (av := [_]) (rest := []) rfl rfl (by decide) lX3_81 rfl rfl (Nat.le_of_ble_eq_true rfl) (Nat.le_refl _) (Nat.le_refl _) (s_J9_abs_0f7a4 (by omega) ?_)
      dsimp only [psh]
      refine x_bipush (i := 39) (pc' := 89) rfl rfl (by decide) ?_
      refine x_iload (i := 40) (pc' := 91) rfl rfl rfl ?_
      refine x_iload (i := 41) (pc' := 93) rfl rfl rfl ?_
      refine x_isub (i := 42) (pc' := 94) rfl rfl ?_
      refine m_callS (i := 43) (pc' := 97) (av := [_]) (rest := [_, _]) rfl rfl (by decide) lX3_81 rfl rfl (Nat.le_of_ble_eq_true rfl) (Nat.le_refl _) (Nat.le_refl _) (s_J9_abs_0f7a4 (by omega) ?_)
      dsimp only [psh]
      refine x_isub (i := 44) (pc' := 98) rfl rfl ?_
      refine m_callS (i := 45) (pc' := 101) (av := [_, _]) (rest := []) rfl rfl (by decide) lX3_86 rfl rfl (Nat.le_of_ble_eq_true rfl) (Nat.le_refl _) (Nat.le_refl _) (s_J9_min_7cf53 (by omega) (by omega) ?_)
      dsimp only [psh]
      exact m_ireturn (i := 46) rfl rfl (by unfold gp at hQ; (repeat' split at hQ) <;> first | exact hQ | (exfalso; omega))
      skip)
  · first | (exfalso; omega; done) | skip
    all_goals (
      refine x_tableOut (i := 11) (tgt := 102) rfl ⟨by omega, by omega⟩ c1 (by decide) ?_
      refine x_iload (i := 47) (pc' := 104) rfl rfl rfl ?_
      refine x_iload (i := 48) (pc' := 106) rfl rfl rfl ?_
      refine m_callS (i := 49) (pc' := 109) (av := [_, _]) (rest := []) rfl rfl (by decide) lX3_89 rfl rfl (Nat.le_of_ble_eq_true rfl) (Nat.le_refl _) (Nat.le_refl _) (s_X3_faceGap (by omega) (by omega) ?_)
      dsimp only [psh]
      exact m_ireturn (i := 50) rfl rfl (by unfold gp at hQ; (repeat' split at hQ) <;> first | exact hQ | (exfalso; omega))
      skip)
theorem s_X3_distance {G : GG} {m : Mem} {Q : Option Value → Mem → Prop} {a b : Int} (ha : 0 ≤ a ∧ a ≤ 16) (hb : 0 ≤ b ∧ b ≤ 16) (h1 : RV m a) (h2 : RV m b) (hQ : Q (some (.int (J (ds m a b)))) m) : CM G 2 mX3_distance [.ref (G.2.2.2 2), .int (J (a)), .int (J (b))] m Q := by
  refine CM.of dkX3_distance (Or.inl rfl) [some _, some _, some _, none, none] rfl (Nat.le_of_ble_eq_true rfl) ?_
  refine x_iconst (i := 0) (pc' := 1) rfl rfl ?_
  refine x_istore_n (L' := [some _, some _, some _, some _, none]) (i := 1) (pc' := 2) rfl rfl rfl rfl (by decide) rfl ?_
  refine x_iconst (i := 2) (pc' := 3) rfl rfl ?_
  refine x_istore (L' := [some _, some _, some _, some _, some _]) (i := 3) (pc' := 5) rfl rfl rfl (by decide) rfl ?_
  skip
  refine up_ind0 (P := fun (j : Int) (x : Int) => BW G 2 mX3_distance Q 5 [some (.ref (G.2.2.2 2)), some (.int (J (a))), some (.int (J (b))), some (.int (J (x))), some (.int (J (j)))] [] m) (fun (j : Int) (x : Int) => x + m 4 j * gp j (m 3 (a * 5 + j)) (m 3 (b * 5 + j))) (4) (0) (0) (by omega) (fun j x hj0 hj hk => ?_) ?_
  · skip
    refine x_iload (i := 4) (pc' := 7) rfl rfl rfl ?_
    refine x_iconst (i := 5) (pc' := 8) rfl rfl ?_
    refine x_icmpge (i := 6) (pc' := 11) (tgt := 36) rfl rfl (by decide) ⟨by omega, by omega⟩ ⟨by omega, by omega⟩ (fun c1 => by exfalso; omega) (fun c1 => ?_)
    refine x_iload_n (i := 7) (pc' := 12) rfl rfl rfl rfl ?_
    refine x_aload_n (i := 8) (pc' := 13) rfl rfl rfl rfl ?_
    refine m_getf (i := 9) (pc' := 16) rfl rfl flX3_15 (sh2 G) rfl rfl ?_
    refine x_iload (i := 10) (pc' := 18) rfl rfl rfl ?_
    refine m_iald (i := 11) (pc' := 19) rfl rfl (sh4 G) (by decide) ⟨by omega, by omega⟩ ?_
    refine x_aload_n (i := 12) (pc' := 20) rfl rfl rfl rfl ?_
    refine x_iload (i := 13) (pc' := 22) rfl rfl rfl ?_
    refine x_iload_n (i := 14) (pc' := 23) rfl rfl rfl rfl ?_
    refine x_iload_n (i := 15) (pc' := 24) rfl rfl rfl rfl ?_
    refine m_callV (i := 16) (pc' := 27) (av := [_, _, _]) (rest := [_, _]) rfl rfl (by decide) lX3_92 (sh2 G) rfl rfl rfl rfl rfl (Nat.le_of_ble_eq_true rfl) (Nat.le_refl _) (Nat.le_refl _) (s_X3_gap (by omega) (by omega) (by omega) (h1 _ (by omega) (by omega)) (h2 _ (by omega) (by omega)) ?_)
    dsimp only [psh]
    refine x_imul (i := 17) (pc' := 28) rfl rfl ?_
    refine x_iadd (i := 18) (pc' := 29) rfl rfl ?_
    refine x_istore_n (L' := [some _, some _, some _, some _, some _]) (i := 19) (pc' := 30) rfl rfl rfl rfl (by decide) rfl ?_
    refine x_iinc (L' := [some _, some _, some _, some _, some _]) (i := 20) (pc' := 33) rfl rfl rfl rfl (by decide) rfl ?_
    refine x_goto (i := 21) (pc' := 5) rfl (by decide) ?_
    (first | exact hk | (refine AW.le ?_ hk; simp [lvle]; done) | ((repeat' split at hk) <;> first | exact hk | (refine AW.le ?_ hk; simp [lvle]; done) | (exfalso; omega)))
  · skip
    refine x_iload (i := 4) (pc' := 7) rfl rfl rfl ?_
    refine x_iconst (i := 5) (pc' := 8) rfl rfl ?_
    refine x_icmpge (i := 6) (pc' := 11) (tgt := 36) rfl rfl (by decide) ⟨by omega, by omega⟩ ⟨by omega, by omega⟩ (fun c1 => ?_) (fun c1 => by exfalso; omega)
    refine x_iload_n (i := 22) (pc' := 37) rfl rfl rfl rfl ?_
    exact m_ireturn (i := 23) rfl rfl (hQ)
theorem s_X3_differingParts {G : GG} {m : Mem} {Q : Option Value → Mem → Prop} {a b : Int} (hM : MR m) (ha : 0 ≤ a ∧ a ≤ 16) (hb : 0 ≤ b ∧ b ≤ 16) (hQ : Q (some (.int (J (df m a b)))) m) : CM G 1 mX3_differingParts [.ref (G.2.2.2 2), .int (J (a)), .int (J (b))] m Q := by
  refine CM.of dkX3_differingParts (Or.inl rfl) [some _, some _, some _, none, none] rfl (Nat.le_of_ble_eq_true rfl) ?_
  refine x_iconst (i := 0) (pc' := 1) rfl rfl ?_
  refine x_istore_n (L' := [some _, some _, some _, some _, none]) (i := 1) (pc' := 2) rfl rfl rfl rfl (by decide) rfl ?_
  refine x_iconst (i := 2) (pc' := 3) rfl rfl ?_
  refine x_istore (L' := [some _, some _, some _, some _, some _]) (i := 3) (pc' := 5) rfl rfl rfl (by decide) rfl ?_
  skip
  refine up_ind1 (P := fun (j : Int) (x : Int) => BW G 1 mX3_differingParts Q 5 [some (.ref (G.2.2.2 2)), some (.int (J (a))), some (.int (J (b))), some (.int (J (x))), some (.int (J (j)))] [] m) (fun (j : Int) (x : Int) => if m 3 (a * 5 + j) = m 3 (b * 5 + j) then x else io x (1 * 2 ^ j.toNat)) (fun (j : Int) (x : Int) => 0 ≤ x) (4) (0) (0) (by omega) (by omega) (fun j x hj0 hj hi => by split <;> first | exact hi | exact io_nn _ _) (fun j x hj0 hj hi hk => ?_) (fun hi => ?_)
  · skip
    refine x_iload (i := 4) (pc' := 7) rfl rfl rfl ?_
    refine x_iconst (i := 5) (pc' := 8) rfl rfl ?_
    refine x_icmpge (i := 6) (pc' := 11) (tgt := 41) rfl rfl (by decide) (by first | omega | exact hM _ _) (by first | omega | exact hM _ _) (fun c1 => by exfalso; omega) (fun c1 => ?_)
    refine x_aload_n (i := 7) (pc' := 12) rfl rfl rfl rfl ?_
    refine x_iload_n (i := 8) (pc' := 13) rfl rfl rfl rfl ?_
    refine x_iload (i := 9) (pc' := 15) rfl rfl rfl ?_
    refine m_callV (i := 10) (pc' := 18) (av := [_, _]) (rest := []) rfl rfl (by decide) lX3_59 (sh2 G) rfl rfl rfl rfl rfl (Nat.le_of_ble_eq_true rfl) (Nat.le_refl _) (Nat.le_refl _) (s_X3_trait (by omega) (by omega) ?_)
    dsimp only [psh]
    refine x_aload_n (i := 11) (pc' := 19) rfl rfl rfl rfl ?_
    refine x_iload_n (i := 12) (pc' := 20) rfl rfl rfl rfl ?_
    refine x_iload (i := 13) (pc' := 22) rfl rfl rfl ?_
    refine m_callV (i := 14) (pc' := 25) (av := [_, _]) (rest := [_]) rfl rfl (by decide) lX3_59 (sh2 G) rfl rfl rfl rfl rfl (Nat.le_of_ble_eq_true rfl) (Nat.le_refl _) (Nat.le_refl _) (s_X3_trait (by omega) (by omega) ?_)
    dsimp only [psh]
    refine x_icmpeq (i := 15) (pc' := 28) (tgt := 35) rfl rfl (by decide) (by first | omega | exact hM _ _) (by first | omega | exact hM _ _) (fun c2 => ?_) (fun c2 => ?_)
    · first | (exfalso; omega; done) | skip
      all_goals (
        refine x_iinc (L' := [some _, some _, some _, some _, some _]) (i := 22) (pc' := 38) rfl rfl rfl rfl (by decide) rfl ?_
        refine x_goto (i := 23) (pc' := 5) rfl (by decide) ?_
        (first | exact hk | (refine AW.le ?_ hk; simp [lvle]; done) | ((repeat' split at hk) <;> first | exact hk | (refine AW.le ?_ hk; simp [lvle]; done) | (exfalso; omega)))
        skip)
    · first | (exfalso; omega; done) | skip
      all_goals (
        refine x_iload_n (i := 16) (pc' := 29) rfl rfl rfl rfl ?_
        refine x_iconst (i := 17) (pc' := 30) rfl rfl ?_
        refine x_iload (i := 18) (pc' := 32) rfl rfl rfl ?_
        refine x_ishl (i := 19) (pc' := 33) rfl rfl (by first | omega | (exact Int.mul_nonneg (by omega) (Int.le_of_lt (Int.pow_pos (by omega))))) (by first | omega | (exact Int.mul_nonneg (by omega) (Int.le_of_lt (Int.pow_pos (by omega))))) ?_
        refine x_ior (i := 20) (pc' := 34) rfl rfl (by first | omega | (exact Int.mul_nonneg (by omega) (Int.le_of_lt (Int.pow_pos (by omega))))) (by first | omega | (exact Int.mul_nonneg (by omega) (Int.le_of_lt (Int.pow_pos (by omega))))) ?_
        refine x_istore_n (L' := [some _, some _, some _, some _, some _]) (i := 21) (pc' := 35) rfl rfl rfl rfl (by decide) rfl ?_
        refine x_iinc (L' := [some _, some _, some _, some _, some _]) (i := 22) (pc' := 38) rfl rfl rfl rfl (by decide) rfl ?_
        refine x_goto (i := 23) (pc' := 5) rfl (by decide) ?_
        (first | exact hk | (refine AW.le ?_ hk; simp [lvle]; done) | ((repeat' split at hk) <;> first | exact hk | (refine AW.le ?_ hk; simp [lvle]; done) | (exfalso; omega)))
        skip)
  · skip
    refine x_iload (i := 4) (pc' := 7) rfl rfl rfl ?_
    refine x_iconst (i := 5) (pc' := 8) rfl rfl ?_
    refine x_icmpge (i := 6) (pc' := 11) (tgt := 41) rfl rfl (by decide) ⟨by omega, by omega⟩ ⟨by omega, by omega⟩ (fun c1 => ?_) (fun c1 => by exfalso; omega)
    refine x_iload_n (i := 24) (pc' := 42) rfl rfl rfl rfl ?_
    exact m_ireturn (i := 25) rfl rfl (hQ)
