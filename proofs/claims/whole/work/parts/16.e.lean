def mtc (m : Mem) (k : Int) : Prop := ∀ p, 0 ≤ p → p < 4 → (m 3 (16 * 5 + p) = -1 ∨ m 3 (16 * 5 + p) = m 3 (k * 5 + p))
noncomputable def mts (m : Mem) : Int := it (fun k x => if bp (mtc m k) = 0 then x else io x (1 * 2 ^ k.toNat)) 0 (m 2 2).toNat 0
def nb (m : Mem) (k d : Int) : Int := it (fun j x => if ds m j k ≤ d then io x (1 * 2 ^ j.toNat) else x) 0 (m 2 2).toNat 0
def clo (m : Mem) : Int × Int := it (fun j (x : Int × Int) => if ds m j 16 < x.2 then (j, ds m j 16) else x) 0 (m 2 2).toNat (-1, 2147483647)
def exs (m : Mem) (g j k : Int) (x : Int × Int) : Int × Int := if x.1 = -1 ∨ (if g = 0 then ds m j k < x.2 else x.2 < ds m j k) then (j * 16 + k, ds m j k) else x
def exr (m : Mem) (g j : Int) (x : Int × Int) : Int × Int := it (fun k x => exs m g j k x) (j + 1) (m 2 2 - (j + 1)).toNat x
def exp_ (m : Mem) (g : Int) : Int × Int := it (fun j x => exr m g j x) 0 (m 2 2).toNat (-1, 0)
def RVs (m : Mem) : Prop := ∀ k, 0 ≤ k → k < m 2 2 → RV m k
theorem s_X3_matchesAsked {G : GG} {m : Mem} {Q : Option Value → Mem → Prop} {a : Int} (hM : MR m) (ha : 0 ≤ a ∧ a ≤ 16) (hQ : Q (some (.int (J (bp (mtc m a))))) m) : CM G 1 mX3_matchesAsked [.ref (G.2.2.2 2), .int (J (a))] m Q := by
  refine CM.of dkX3_matchesAsked (Or.inl rfl) [some _, some _, none, none] rfl (Nat.le_of_ble_eq_true rfl) ?_
  refine x_iconst (i := 0) (pc' := 1) rfl rfl ?_
  refine x_istore_n (L' := [some _, some _, some _, none]) (i := 1) (pc' := 2) rfl rfl rfl rfl (by decide) rfl ?_
  skip
  refine all_ind (P := fun j => BW G 1 mX3_matchesAsked Q 2 [some (.ref (G.2.2.2 2)), some (.int (J (a))), some (.int (J (j))), none] [] m) (Z := fun r => Q (some (.int (J r))) m) (fun p => m 3 (16 * 5 + p) = -1 ∨ m 3 (16 * 5 + p) = m 3 (a * 5 + p)) 4 0 (by omega) (fun hz => ?_) (fun j hj0 hj h1 h2 => ?_) hQ
  · skip
    refine x_iload_n (i := 2) (pc' := 3) rfl rfl rfl rfl ?_
    refine x_iconst (i := 3) (pc' := 4) rfl rfl ?_
    refine x_icmpge (i := 4) (pc' := 7) (tgt := 38) rfl rfl (by decide) ⟨by omega, by omega⟩ ⟨by omega, by omega⟩ (fun c1 => ?_) (fun c1 => by exfalso; omega)
    refine x_iconst (i := 23) (pc' := 39) rfl rfl ?_
    exact m_zreturn (i := 24) rfl rfl (by omega) (hz)
  · skip
    refine x_iload_n (i := 2) (pc' := 3) rfl rfl rfl rfl ?_
    refine x_iconst (i := 3) (pc' := 4) rfl rfl ?_
    refine x_icmpge (i := 4) (pc' := 7) (tgt := 38) rfl rfl (by decide) (by first | omega | exact hM _ _) (by first | omega | exact hM _ _) (fun c1 => by exfalso; omega) (fun c1 => ?_)
    refine x_aload_n (i := 5) (pc' := 8) rfl rfl rfl rfl ?_
    refine x_bipush (i := 6) (pc' := 10) rfl rfl (by decide) ?_
    refine x_iload_n (i := 7) (pc' := 11) rfl rfl rfl rfl ?_
    refine m_callV (i := 8) (pc' := 14) (av := [_, _]) (rest := []) rfl rfl (by decide) lX3_59 (sh2 G) rfl rfl rfl rfl rfl (Nat.le_of_ble_eq_true rfl) (Nat.le_refl _) (Nat.le_refl _) (s_X3_trait (by omega) (by omega) ?_)
    dsimp only [psh]
    refine x_istore_n (L' := [some _, some _, some _, some _]) (i := 9) (pc' := 15) rfl rfl rfl rfl (by decide) rfl ?_
    refine x_iload_n (i := 10) (pc' := 16) rfl rfl rfl rfl ?_
    refine x_iconst (i := 11) (pc' := 17) rfl rfl ?_
    refine x_icmpeq (i := 12) (pc' := 20) (tgt := 32) rfl rfl (by decide) (by first | omega | exact hM _ _) (by first | omega | exact hM _ _) (fun c2 => ?_) (fun c2 => ?_)
    · first | (exfalso; omega; done) | skip
      all_goals (
        refine x_iinc (L' := [some _, some _, some _, some _]) (i := 21) (pc' := 35) rfl rfl rfl rfl (by decide) rfl ?_
        refine x_goto (i := 22) (pc' := 2) rfl (by decide) ?_
        have hk := h2 (by omega)
        first | exact hk | (refine AW.le ?_ hk; simp [lvle]; done) | ((repeat' split at hk) <;> first | exact hk | (refine AW.le ?_ hk; simp [lvle]; done) | (exfalso; omega))
        skip)
    · first | (exfalso; omega; done) | skip
      all_goals (
        refine x_iload_n (i := 13) (pc' := 21) rfl rfl rfl rfl ?_
        refine x_aload_n (i := 14) (pc' := 22) rfl rfl rfl rfl ?_
        refine x_iload_n (i := 15) (pc' := 23) rfl rfl rfl rfl ?_
        refine x_iload_n (i := 16) (pc' := 24) rfl rfl rfl rfl ?_
        refine m_callV (i := 17) (pc' := 27) (av := [_, _]) (rest := [_]) rfl rfl (by decide) lX3_59 (sh2 G) rfl rfl rfl rfl rfl (Nat.le_of_ble_eq_true rfl) (Nat.le_refl _) (Nat.le_refl _) (s_X3_trait (by omega) (by omega) ?_)
        dsimp only [psh]
        refine x_icmpeq (i := 18) (pc' := 30) (tgt := 32) rfl rfl (by decide) (by first | omega | exact hM _ _) (by first | omega | exact hM _ _) (fun c3 => ?_) (fun c3 => ?_)
        · first | (exfalso; omega; done) | skip
          all_goals (
            refine x_iinc (L' := [some _, some _, some _, some _]) (i := 21) (pc' := 35) rfl rfl rfl rfl (by decide) rfl ?_
            refine x_goto (i := 22) (pc' := 2) rfl (by decide) ?_
            have hk := h2 (by omega)
            first | exact hk | (refine AW.le ?_ hk; simp [lvle]; done) | ((repeat' split at hk) <;> first | exact hk | (refine AW.le ?_ hk; simp [lvle]; done) | (exfalso; omega))
            skip)
        · first | (exfalso; omega; done) | skip
          all_goals (
            refine x_iconst (i := 19) (pc' := 31) rfl rfl ?_
            exact m_zreturn (i := 20) rfl rfl (by omega) (h1 (by omega))
            skip)
        skip)
theorem s_X3_matches {G : GG} {m : Mem} {Q : Option Value → Mem → Prop} (hM : MR m) (hn : CN m) (hQ : Q (some (.int (J (mts m)))) m) : CM G 2 mX3_matches [.ref (G.2.2.2 2)] m Q := by
  refine CM.of dkX3_matches (Or.inl rfl) [some _, none, none] rfl (Nat.le_of_ble_eq_true rfl) ?_
  have hn0 := hn.1; have hn1 := hn.2
  refine x_iconst (i := 0) (pc' := 1) rfl rfl ?_
  refine x_istore_n (L' := [some _, some _, none]) (i := 1) (pc' := 2) rfl rfl rfl rfl (by decide) rfl ?_
  refine x_iconst (i := 2) (pc' := 3) rfl rfl ?_
  refine x_istore_n (L' := [some _, some _, some _]) (i := 3) (pc' := 4) rfl rfl rfl rfl (by decide) rfl ?_
  skip
  refine up_ind1 (P := fun (j : Int) (x : Int) => BW G 2 mX3_matches Q 4 [some (.ref (G.2.2.2 2)), some (.int (J (x))), some (.int (J (j)))] [] m) (fun (j : Int) (x : Int) => if bp (mtc m j) = 0 then x else io x (1 * 2 ^ j.toNat)) (fun (j : Int) (x : Int) => 0 ≤ x) (m 2 2) (0) (0) (by omega) (by omega) (fun j x hj0 hj hi => by split <;> first | exact hi | exact io_nn _ _) (fun j x hj0 hj hi hk => ?_) (fun hi => ?_)
  · have hb := bp_01 (mtc m j)
    refine x_iload_n (i := 4) (pc' := 5) rfl rfl rfl rfl ?_
    refine x_aload_n (i := 5) (pc' := 6) rfl rfl rfl rfl ?_
    refine m_getf (i := 6) (pc' := 9) rfl rfl flX3_18 (sh2 G) rfl rfl ?_
    refine x_icmpge (i := 7) (pc' := 12) (tgt := 32) rfl rfl (by decide) ⟨by omega, by omega⟩ ⟨by omega, by omega⟩ (fun c1 => by exfalso; omega) (fun c1 => ?_)
    refine x_aload_n (i := 8) (pc' := 13) rfl rfl rfl rfl ?_
    refine x_iload_n (i := 9) (pc' := 14) rfl rfl rfl rfl ?_
    refine m_callV (i := 10) (pc' := 17) (av := [_]) (rest := []) rfl rfl (by decide) lX3_96 (sh2 G) rfl rfl rfl rfl rfl (Nat.le_of_ble_eq_true rfl) (Nat.le_refl _) (Nat.le_refl _) (s_X3_matchesAsked hM (by omega) ?_)
    dsimp only [psh]
    refine x_ifeq (i := 11) (pc' := 20) (tgt := 26) rfl rfl (by decide) ⟨by omega, by omega⟩ (fun c2 => ?_) (fun c2 => ?_)
    · first | (exfalso; omega; done) | skip
      all_goals (
        refine x_iinc (L' := [some _, some _, some _]) (i := 18) (pc' := 29) rfl rfl rfl rfl (by decide) rfl ?_
        refine x_goto (i := 19) (pc' := 4) rfl (by decide) ?_
        (first | exact hk | (refine AW.le ?_ hk; simp [lvle]; done) | ((repeat' split at hk) <;> first | exact hk | (refine AW.le ?_ hk; simp [lvle]; done) | (exfalso; omega)))
        skip)
    · first | (exfalso; omega; done) | skip
      all_goals (
        refine x_iload_n (i := 12) (pc' := 21) rfl rfl rfl rfl ?_
        refine x_iconst (i := 13) (pc' := 22) rfl rfl ?_
        refine x_iload_n (i := 14) (pc' := 23) rfl rfl rfl rfl ?_
        refine x_ishl (i := 15) (pc' := 24) rfl rfl (by first | omega | (exact Int.mul_nonneg (by omega) (Int.le_of_lt (Int.pow_pos (by omega))))) (by first | omega | (exact Int.mul_nonneg (by omega) (Int.le_of_lt (Int.pow_pos (by omega))))) ?_
        refine x_ior (i := 16) (pc' := 25) rfl rfl (by first | omega | (exact Int.mul_nonneg (by omega) (Int.le_of_lt (Int.pow_pos (by omega))))) (by first | omega | (exact Int.mul_nonneg (by omega) (Int.le_of_lt (Int.pow_pos (by omega))))) ?_
        refine x_istore_n (L' := [some _, some _, some _]) (i := 17) (pc' := 26) rfl rfl rfl rfl (by decide) rfl ?_
        refine x_iinc (L' := [some _, some _, some _]) (i := 18) (pc' := 29) rfl rfl rfl rfl (by decide) rfl ?_
        refine x_goto (i := 19) (pc' := 4) rfl (by decide) ?_
        (first | exact hk | (refine AW.le ?_ hk; simp [lvle]; done) | ((repeat' split at hk) <;> first | exact hk | (refine AW.le ?_ hk; simp [lvle]; done) | (exfalso; omega)))
        skip)
  · skip
    refine x_iload_n (i := 4) (pc' := 5) rfl rfl rfl rfl ?_
    refine x_aload_n (i := 5) (pc' := 6) rfl rfl rfl rfl ?_
    refine m_getf (i := 6) (pc' := 9) rfl rfl flX3_18 (sh2 G) rfl rfl ?_
    refine x_icmpge (i := 7) (pc' := 12) (tgt := 32) rfl rfl (by decide) ⟨by omega, by omega⟩ ⟨by omega, by omega⟩ (fun c1 => ?_) (fun c1 => by exfalso; omega)
    refine x_iload_n (i := 20) (pc' := 33) rfl rfl rfl rfl ?_
    exact m_ireturn (i := 21) rfl rfl (by rw [Int.sub_zero]; exact hQ)
theorem s_X3_neighbours {G : GG} {m : Mem} {Q : Option Value → Mem → Prop} {a b : Int} (hM : MR m) (hn : CN m) (hv : RVs m) (hw : WT m) (ha : 0 ≤ a ∧ a < m 2 2) (hb : rg b) (hQ : Q (some (.int (J (nb m a b)))) m) : CM G 3 mX3_neighbours [.ref (G.2.2.2 2), .int (J (a)), .int (J (b))] m Q := by
  refine CM.of dkX3_neighbours (Or.inl rfl) [some _, some _, some _, none, none] rfl (Nat.le_of_ble_eq_true rfl) ?_
  have hn0 := hn.1; have hn1 := hn.2
  have hva := hv a (by omega) (by omega)
  refine x_iconst (i := 0) (pc' := 1) rfl rfl ?_
  refine x_istore_n (L' := [some _, some _, some _, some _, none]) (i := 1) (pc' := 2) rfl rfl rfl rfl (by decide) rfl ?_
  refine x_iconst (i := 2) (pc' := 3) rfl rfl ?_
  refine x_istore (L' := [some _, some _, some _, some _, some _]) (i := 3) (pc' := 5) rfl rfl rfl (by decide) rfl ?_
  skip
  refine up_ind1 (P := fun (j : Int) (x : Int) => BW G 3 mX3_neighbours Q 5 [some (.ref (G.2.2.2 2)), some (.int (J (a))), some (.int (J (b))), some (.int (J (x))), some (.int (J (j)))] [] m) (fun (j : Int) (x : Int) => if ds m j a ≤ b then io x (1 * 2 ^ j.toNat) else x) (fun (j : Int) (x : Int) => 0 ≤ x) (m 2 2) (0) (0) (by omega) (by omega) (fun j x hj0 hj hi => by split <;> first | exact hi | exact io_nn _ _) (fun j x hj0 hj hi hk => ?_) (fun hi => ?_)
  · have hvj := hv j (by omega) (by omega)
    have hd := ds_le hvj hva hw
    refine x_iload (i := 4) (pc' := 7) rfl rfl rfl ?_
    refine x_aload_n (i := 5) (pc' := 8) rfl rfl rfl rfl ?_
    refine m_getf (i := 6) (pc' := 11) rfl rfl flX3_18 (sh2 G) rfl rfl ?_
    refine x_icmpge (i := 7) (pc' := 14) (tgt := 38) rfl rfl (by decide) ⟨by omega, by omega⟩ ⟨by omega, by omega⟩ (fun c1 => by exfalso; omega) (fun c1 => ?_)
    refine x_aload_n (i := 8) (pc' := 15) rfl rfl rfl rfl ?_
    refine x_iload (i := 9) (pc' := 17) rfl rfl rfl ?_
    refine x_iload_n (i := 10) (pc' := 18) rfl rfl rfl rfl ?_
    refine m_callV (i := 11) (pc' := 21) (av := [_, _]) (rest := []) rfl rfl (by decide) lX3_99 (sh2 G) rfl rfl rfl rfl rfl (Nat.le_of_ble_eq_true rfl) (Nat.le_refl _) (Nat.le_refl _) (s_X3_distance (by omega) (by omega) (by assumption) (by assumption) ?_)
    dsimp only [psh]
    refine x_iload_n (i := 12) (pc' := 22) rfl rfl rfl rfl ?_
    refine x_icmpgt (i := 13) (pc' := 25) (tgt := 32) rfl rfl (by decide) ⟨by omega, by omega⟩ ⟨by omega, by omega⟩ (fun c2 => ?_) (fun c2 => ?_)
    · first | (exfalso; omega; done) | skip
      all_goals (
        refine x_iinc (L' := [some _, some _, some _, some _, some _]) (i := 20) (pc' := 35) rfl rfl rfl rfl (by decide) rfl ?_
        refine x_goto (i := 21) (pc' := 5) rfl (by decide) ?_
        (first | exact hk | (refine AW.le ?_ hk; simp [lvle]; done) | ((repeat' split at hk) <;> first | exact hk | (refine AW.le ?_ hk; simp [lvle]; done) | (exfalso; omega)))
        skip)
    · first | (exfalso; omega; done) | skip
      all_goals (
        refine x_iload_n (i := 14) (pc' := 26) rfl rfl rfl rfl ?_
        refine x_iconst (i := 15) (pc' := 27) rfl rfl ?_
        refine x_iload (i := 16) (pc' := 29) rfl rfl rfl ?_
        refine x_ishl (i := 17) (pc' := 30) rfl rfl (by first | omega | (exact Int.mul_nonneg (by omega) (Int.le_of_lt (Int.pow_pos (by omega))))) (by first | omega | (exact Int.mul_nonneg (by omega) (Int.le_of_lt (Int.pow_pos (by omega))))) ?_
        refine x_ior (i := 18) (pc' := 31) rfl rfl (by first | omega | (exact Int.mul_nonneg (by omega) (Int.le_of_lt (Int.pow_pos (by omega))))) (by first | omega | (exact Int.mul_nonneg (by omega) (Int.le_of_lt (Int.pow_pos (by omega))))) ?_
        refine x_istore_n (L' := [some _, some _, some _, some _, some _]) (i := 19) (pc' := 32) rfl rfl rfl rfl (by decide) rfl ?_
        refine x_iinc (L' := [some _, some _, some _, some _, some _]) (i := 20) (pc' := 35) rfl rfl rfl rfl (by decide) rfl ?_
        refine x_goto (i := 21) (pc' := 5) rfl (by decide) ?_
        (first | exact hk | (refine AW.le ?_ hk; simp [lvle]; done) | ((repeat' split at hk) <;> first | exact hk | (refine AW.le ?_ hk; simp [lvle]; done) | (exfalso; omega)))
        skip)
  · skip
    refine x_iload (i := 4) (pc' := 7) rfl rfl rfl ?_
    refine x_aload_n (i := 5) (pc' := 8) rfl rfl rfl rfl ?_
    refine m_getf (i := 6) (pc' := 11) rfl rfl flX3_18 (sh2 G) rfl rfl ?_
    refine x_icmpge (i := 7) (pc' := 14) (tgt := 38) rfl rfl (by decide) ⟨by omega, by omega⟩ ⟨by omega, by omega⟩ (fun c1 => ?_) (fun c1 => by exfalso; omega)
    refine x_iload_n (i := 22) (pc' := 39) rfl rfl rfl rfl ?_
    exact m_ireturn (i := 23) rfl rfl (by rw [Int.sub_zero]; exact hQ)
theorem s_X3_closest {G : GG} {m : Mem} {Q : Option Value → Mem → Prop} (hM : MR m) (hn : CN m) (hv : RVs m) (hw : WT m) (h16 : RV m 16) (hQ : Q (some (.int (J ((clo m).1)))) m) : CM G 3 mX3_closest [.ref (G.2.2.2 2)] m Q := by
  refine CM.of dkX3_closest (Or.inl rfl) [some _, none, none, none, none] rfl (Nat.le_of_ble_eq_true rfl) ?_
  have hn0 := hn.1; have hn1 := hn.2
  refine x_iconst (i := 0) (pc' := 1) rfl rfl ?_
  refine x_istore_n (L' := [some _, some _, none, none, none]) (i := 1) (pc' := 2) rfl rfl rfl rfl (by decide) rfl ?_
  refine x_ldc (i := 2) (pc' := 4) rfl rfl kX3_102 ?_
  refine x_istore_n (L' := [some _, some _, some _, none, none]) (i := 3) (pc' := 5) rfl rfl rfl rfl (by decide) rfl ?_
  refine x_iconst (i := 4) (pc' := 6) rfl rfl ?_
  refine x_istore_n (L' := [some _, some _, some _, some _, none]) (i := 5) (pc' := 7) rfl rfl rfl rfl (by decide) rfl ?_
  skip
  refine up_ind1 (P := fun (j : Int) (x : Int × Int) => BW G 3 mX3_closest Q 7 [some (.ref (G.2.2.2 2)), some (.int (J (x.1))), some (.int (J (x.2))), some (.int (J (j))), none] [] m) (fun (j : Int) (x : Int × Int) => if ds m j 16 < x.2 then (j, ds m j 16) else x) (fun (j : Int) (x : Int × Int) => rg x.2) (m 2 2) (0) ((-1, 2147483647)) (by omega) (by omega) (fun j x hj0 hj hi => by (have hd := ds_le (hv j (by omega) (by omega)) h16 hw; split <;> first | exact hi | (show rg (ds m j 16); omega))) (fun j x hj0 hj hi hk => ?_) (fun hi => ?_)
  · have hvj := hv j (by omega) (by omega)
    have hd := ds_le hvj h16 hw
    refine x_iload_n (i := 6) (pc' := 8) rfl rfl rfl rfl ?_
    refine x_aload_n (i := 7) (pc' := 9) rfl rfl rfl rfl ?_
    refine m_getf (i := 8) (pc' := 12) rfl rfl flX3_18 (sh2 G) rfl rfl ?_
    refine x_icmpge (i := 9) (pc' := 15) (tgt := 41) rfl rfl (by decide) ⟨by omega, by omega⟩ ⟨by omega, by omega⟩ (fun c1 => by exfalso; omega) (fun c1 => ?_)
    refine x_aload_n (i := 10) (pc' := 16) rfl rfl rfl rfl ?_
    refine x_iload_n (i := 11) (pc' := 17) rfl rfl rfl rfl ?_
    refine x_bipush (i := 12) (pc' := 19) rfl rfl (by decide) ?_
    refine m_callV (i := 13) (pc' := 22) (av := [_, _]) (rest := []) rfl rfl (by decide) lX3_99 (sh2 G) rfl rfl rfl rfl rfl (Nat.le_of_ble_eq_true rfl) (Nat.le_refl _) (Nat.le_refl _) (s_X3_distance (by omega) (by omega) (by assumption) (by assumption) ?_)
    dsimp only [psh]
    refine x_istore (L' := [some _, some _, some _, some _, some _]) (i := 14) (pc' := 24) rfl rfl rfl (by decide) rfl ?_
    refine x_iload (i := 15) (pc' := 26) rfl rfl rfl ?_
    refine x_iload_n (i := 16) (pc' := 27) rfl rfl rfl rfl ?_
    refine x_icmpge (i := 17) (pc' := 30) (tgt := 35) rfl rfl (by decide) ⟨by omega, by omega⟩ ⟨by omega, by omega⟩ (fun c2 => ?_) (fun c2 => ?_)
    · first | (exfalso; omega; done) | skip
      all_goals (
        refine x_iinc (L' := [some _, some _, some _, some _, some _]) (i := 22) (pc' := 38) rfl rfl rfl rfl (by decide) rfl ?_
        refine x_goto (i := 23) (pc' := 7) rfl (by decide) ?_
        (first | exact hk | (refine AW.le ?_ hk; simp [lvle]; done) | ((repeat' split at hk) <;> first | exact hk | (refine AW.le ?_ hk; simp [lvle]; done) | (exfalso; omega)))
        skip)
    · first | (exfalso; omega; done) | skip
      all_goals (
        refine x_iload (i := 18) (pc' := 32) rfl rfl rfl ?_
        refine x_istore_n (L' := [some _, some _, some _, some _, some _]) (i := 19) (pc' := 33) rfl rfl rfl rfl (by decide) rfl ?_
        refine x_iload_n (i := 20) (pc' := 34) rfl rfl rfl rfl ?_
        refine x_istore_n (L' := [some _, some _, some _, some _, some _]) (i := 21) (pc' := 35) rfl rfl rfl rfl (by decide) rfl ?_
        refine x_iinc (L' := [some _, some _, some _, some _, some _]) (i := 22) (pc' := 38) rfl rfl rfl rfl (by decide) rfl ?_
        refine x_goto (i := 23) (pc' := 7) rfl (by decide) ?_
        (first | exact hk | (refine AW.le ?_ hk; simp [lvle]; done) | ((repeat' split at hk) <;> first | exact hk | (refine AW.le ?_ hk; simp [lvle]; done) | (exfalso; omega)))
        skip)
  · skip
    refine x_iload_n (i := 6) (pc' := 8) rfl rfl rfl rfl ?_
    refine x_aload_n (i := 7) (pc' := 9) rfl rfl rfl rfl ?_
    refine m_getf (i := 8) (pc' := 12) rfl rfl flX3_18 (sh2 G) rfl rfl ?_
    refine x_icmpge (i := 9) (pc' := 15) (tgt := 41) rfl rfl (by decide) ⟨by omega, by omega⟩ ⟨by omega, by omega⟩ (fun c1 => ?_) (fun c1 => by exfalso; omega)
    refine x_iload_n (i := 24) (pc' := 42) rfl rfl rfl rfl ?_
    exact m_ireturn (i := 25) rfl rfl (by rw [Int.sub_zero]; exact hQ)
