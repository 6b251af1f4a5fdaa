theorem ds_rg {m : Mem} {a b : Int} (ha : RV m a) (hb : RV m b) (hw : WT m) : rg (ds m a b) := by have := ds_le ha hb hw; omega
def ys (m : Mem) (g j k : Int) (x : Int × Int) : Int × Int := if x.1 = -1 ∨ (g = 0 ∧ ds m j k < x.2) ∨ (¬ g = 0 ∧ x.2 < ds m j k) then (j * 16 + k, ds m j k) else x
def yr (m : Mem) (g j : Int) (x : Int × Int) : Int × Int := it (fun k x => ys m g j k x) (j + 1) (m 2 2 - (j + 1)).toNat x
def yp (m : Mem) (g : Int) : Int × Int := it (fun j x => yr m g j x) 0 (m 2 2).toNat (-1, 0)
def YI (x : Int × Int) : Prop := (-1 ≤ x.1 ∧ x.1 ≤ 1000) ∧ rg x.2
theorem ys_I {m : Mem} (hn : CN m) (hv : RVs m) (hw : WT m) {g j k : Int} {x : Int × Int} (hj : 0 ≤ j ∧ j < m 2 2) (hk : 0 ≤ k ∧ k < m 2 2) (h : YI x) : YI (ys m g j k x) := by
  have h1 := hn.1; have h2 := hn.2
  have hd := ds_le (hv j hj.1 hj.2) (hv k hk.1 hk.2) hw
  unfold ys
  split
  · exact ⟨by show -1 ≤ j * 16 + k ∧ j * 16 + k ≤ 1000; omega, by show rg (ds m j k); omega⟩
  · exact h
theorem it_I {α : Type} {f : Int → α → α} {I : α → Prop} : ∀ (n : Nat) (j : Int) (x : α), (∀ i y, j ≤ i → i < j + n → I y → I (f i y)) → I x → I (it f j n x)
  | 0, _, _, _, h => h
  | n + 1, j, x, hf, h => it_I n (j + 1) (f j x) (fun i y h1 h2 => hf i y (by omega) (by omega)) (hf j x (by omega) (by omega) h)
def rn (x : Int) : Int := (x * 1103515245 + 12345) % 2147483648
def ri (w : Int) (x : Int × Mem) : Int × Mem := (rn x.1, stm x.2 3 (16 * 5 + w) (rn x.1 / 65536 % (if w = 4 then 4 else 8)))
noncomputable def rr (x : Int × Mem) : Int × Mem := ((it (fun w x => ri w x) 0 5 x).1, apx (it (fun w x => ri w x) 0 5 x).2)
noncomputable def rds (m : Mem) (a b : Int) : Int × Mem := it (fun _ x => rr x) 0 b.toNat (a, m)
def RI (x : Int × Mem) : Prop := (0 ≤ x.1 ∧ x.1 < 2147483648) ∧ MR x.2 ∧ CN x.2
theorem ri_I {w : Int} {x : Int × Mem} (h : RI x) : RI (ri w x) := by
  obtain ⟨h1, h2, h3⟩ := h
  refine ⟨by show 0 ≤ rn x.1 ∧ rn x.1 < 2147483648; unfold rn; omega, h2.st ?_, h3⟩
  have : 0 ≤ rn x.1 ∧ rn x.1 < 2147483648 := by unfold rn; omega
  split <;> omega
theorem rr_I {x : Int × Mem} (h : RI x) : RI (rr x) := by
  have h2 : RI (it (fun w x => ri w x) 0 5 x) := it_I 5 0 x (fun i y _ _ hy => ri_I hy) h
  exact ⟨h2.1, h2.2.1.ap h2.2.2, h2.2.2.ap⟩
noncomputable def adn (m : Mem) (a b : Int) : Int := if (0 ≤ a ∧ a ≤ 999999) ∧ (1 ≤ b ∧ b ≤ 16) then (rds m a b).2 2 2 - m 2 2 else -2
noncomputable def adz (m : Mem) (a b : Int) : Mem := if (0 ≤ a ∧ a ≤ 999999) ∧ (1 ≤ b ∧ b ≤ 16) then (rds m a b).2 else m
theorem s_X3_extremePair {G : GG} {m : Mem} {Q : Option Value → Mem → Prop} {g : Int} (hM : MR m) (hn : CN m) (hv : RVs m) (hw : WT m) (hg : g = 0 ∨ g = 1) (hQ : Q (some (.int (J ((yp m g).1)))) m) : CM G 3 mX3_extremePair [.ref (G.2.2.2 2), .int (J (g))] m Q := by
  refine CM.of dkX3_extremePair (Or.inl rfl) [some _, some _, none, none, none, none, none] rfl (Nat.le_of_ble_eq_true rfl) ?_
  have hn0 := hn.1; have hn1 := hn.2
  refine x_iconst (i := 0) (pc' := 1) rfl rfl ?_
  refine x_istore_n (L' := [some _, some _, some _, none, none, none, none]) (i := 1) (pc' := 2) rfl rfl rfl rfl (by decide) rfl ?_
  refine x_iconst (i := 2) (pc' := 3) rfl rfl ?_
  refine x_istore_n (L' := [some _, some _, some _, some _, none, none, none]) (i := 3) (pc' := 4) rfl rfl rfl rfl (by decide) rfl ?_
  refine x_iconst (i := 4) (pc' := 5) rfl rfl ?_
  refine x_istore (L' := [some _, some _, some _, some _, some _, none, none]) (i := 5) (pc' := 7) rfl rfl rfl (by decide) rfl ?_
  skip
  refine up_ind1 (P := fun (j : Int) (x : Int × Int) => BW G 3 mX3_extremePair Q 7 [some (.ref (G.2.2.2 2)), some (.int (J (g))), some (.int (J (x.1))), some (.int (J (x.2))), some (.int (J (j))), none, none] [] m) (fun (j : Int) (x : Int × Int) => yr m g j x) (fun (j : Int) (x : Int × Int) => YI x) (m 2 2) (0) ((-1, 0)) (by omega) (⟨by decide, by decide⟩) (fun j x hj0 hj hi => it_I _ _ _ (fun i y h1 h2 h3 => ys_I hn hv hw (by omega) (by omega) h3) hi) (fun j x hj0 hj hi hk => ?_) (fun hi => ?_)
  · skip
    refine x_iload (i := 6) (pc' := 9) rfl rfl rfl ?_
    refine x_aload_n (i := 7) (pc' := 10) rfl rfl rfl rfl ?_
    refine m_getf (i := 8) (pc' := 13) rfl rfl flX3_18 (sh2 G) rfl rfl ?_
    refine x_icmpge (i := 9) (pc' := 16) (tgt := 89) rfl rfl (by decide) ⟨by omega, by omega⟩ ⟨by omega, by omega⟩ (fun c1 => by exfalso; omega) (fun c1 => ?_)
    refine x_iload (i := 10) (pc' := 18) rfl rfl rfl ?_
    refine x_iconst (i := 11) (pc' := 19) rfl rfl ?_
    refine x_iadd (i := 12) (pc' := 20) rfl rfl ?_
    refine x_istore (L' := [some _, some _, some _, some _, some _, some _, none]) (i := 13) (pc' := 22) rfl rfl rfl (by decide) rfl ?_
    refine up_ind1 (P := fun (k : Int) (y : Int × Int) => BW G 3 mX3_extremePair Q 22 [some (.ref (G.2.2.2 2)), some (.int (J (g))), some (.int (J (y.1))), some (.int (J (y.2))), some (.int (J (j))), some (.int (J (k))), none] [] m) (fun (k : Int) (y : Int × Int) => ys m g j k y) (fun (k : Int) (y : Int × Int) => YI y) (m 2 2) (j + 1) (x) (by omega) (hi) (fun k y hj02 hj2 hi2 => ys_I hn hv hw (by omega) (by omega) hi2) (fun k y hj02 hj2 hi2 hk2 => ?_) (fun hi2 => ?_)
    · have hd := ds_le (hv j (by omega) (by omega)) (hv k (by omega) (by omega)) hw
      have hy := hi2.1; have hz := hi2.2
      refine x_iload (i := 14) (pc' := 24) rfl rfl rfl ?_
      refine x_aload_n (i := 15) (pc' := 25) rfl rfl rfl rfl ?_
      refine m_getf (i := 16) (pc' := 28) rfl rfl flX3_18 (sh2 G) rfl rfl ?_
      refine x_icmpge (i := 17) (pc' := 31) (tgt := 83) rfl rfl (by decide) ⟨by omega, by omega⟩ ⟨by omega, by omega⟩ (fun e1 => by exfalso; omega) (fun e1 => ?_)
      refine x_aload_n (i := 18) (pc' := 32) rfl rfl rfl rfl ?_
      refine x_iload (i := 19) (pc' := 34) rfl rfl rfl ?_
      refine x_iload (i := 20) (pc' := 36) rfl rfl rfl ?_
      refine m_callV (i := 21) (pc' := 39) (av := [_, _]) (rest := []) rfl rfl (by decide) lX3_99 (sh2 G) rfl rfl rfl rfl rfl (Nat.le_of_ble_eq_true rfl) (Nat.le_refl _) (Nat.le_refl _) (s_X3_distance (by omega) (by omega) (hv j (by omega) (by omega)) (hv k (by omega) (by omega)) ?_)
      dsimp only [psh]
      refine x_istore (L' := [some _, some _, some _, some _, some _, some _, some _]) (i := 22) (pc' := 41) rfl rfl rfl (by decide) rfl ?_
      refine x_iload_n (i := 23) (pc' := 42) rfl rfl rfl rfl ?_
      refine x_iconst (i := 24) (pc' := 43) rfl rfl ?_
      refine x_icmpeq (i := 25) (pc' := 46) (tgt := 65) rfl rfl (by decide) ⟨by omega, by omega⟩ ⟨by omega, by omega⟩ (fun e2 => ?_) (fun e2 => ?_)
      · skip
        refine x_iload (i := 35) (pc' := 67) rfl rfl rfl ?_
        refine x_istore_n (L' := [some _, some _, some _, some _, some _, some _, some _]) (i := 36) (pc' := 68) rfl rfl rfl rfl (by decide) rfl ?_
        refine x_iload (i := 37) (pc' := 70) rfl rfl rfl ?_
        refine x_bipush (i := 38) (pc' := 72) rfl rfl (by decide) ?_
        refine x_imul (i := 39) (pc' := 73) rfl rfl ?_
        refine x_iload (i := 40) (pc' := 75) rfl rfl rfl ?_
        refine x_iadd (i := 41) (pc' := 76) rfl rfl ?_
        refine x_istore_n (L' := [some _, some _, some _, some _, some _, some _, some _]) (i := 42) (pc' := 77) rfl rfl rfl rfl (by decide) rfl ?_
        refine x_iinc (L' := [some _, some _, some _, some _, some _, some _, some _]) (i := 43) (pc' := 80) rfl rfl rfl rfl (by decide) rfl ?_
        refine x_goto (i := 44) (pc' := 22) rfl (by decide) ?_
        (unfold ys at hk2; first | exact hk2 | (refine AW.le ?_ hk2; simp [lvle]; done) | ((repeat' split at hk2) <;> first | exact hk2 | (refine AW.le ?_ hk2; simp [lvle]; done) | (exfalso; omega)))
      · skip
        refine x_iload_n (i := 26) (pc' := 47) rfl rfl rfl rfl ?_
        refine x_ifeq (i := 27) (pc' := 50) (tgt := 59) rfl rfl (by decide) ⟨by omega, by omega⟩ (fun e3 => ?_) (fun e3 => ?_)
        · skip
          refine x_iload (i := 32) (pc' := 61) rfl rfl rfl ?_
          refine x_iload_n (i := 33) (pc' := 62) rfl rfl rfl rfl ?_
          refine x_icmpge (i := 34) (pc' := 65) (tgt := 77) rfl rfl (by decide) ⟨by omega, by omega⟩ ⟨by omega, by omega⟩ (fun e4 => ?_) (fun e4 => ?_)
          · skip
            refine x_iinc (L' := [some _, some _, some _, some _, some _, some _, some _]) (i := 43) (pc' := 80) rfl rfl rfl rfl (by decide) rfl ?_
            refine x_goto (i := 44) (pc' := 22) rfl (by decide) ?_
            (unfold ys at hk2; first | exact hk2 | (refine AW.le ?_ hk2; simp [lvle]; done) | ((repeat' split at hk2) <;> first | exact hk2 | (refine AW.le ?_ hk2; simp [lvle]; done) | (exfalso; omega)))
          · skip
            refine x_iload (i := 35) (pc' := 67) rfl rfl rfl ?_
            refine x_istore_n (L' := [some _, some _, some _, some _, some _, some _, some _]) (i := 36) (pc' := 68) rfl rfl rfl rfl (by decide) rfl ?_
            refine x_iload (i := 37) (pc' := 70) rfl rfl rfl ?_
            refine x_bipush (i := 38) (pc' := 72) rfl rfl (by decide) ?_
            refine x_imul (i := 39) (pc' := 73) rfl rfl ?_
            refine x_iload (i := 40) (pc' := 75) rfl rfl rfl ?_
            refine x_iadd (i := 41) (pc' := 76) rfl rfl ?_
            refine x_istore_n (L' := [some _, some _, some _, some _, some _, some _, some _]) (i := 42) (pc' := 77) rfl rfl rfl rfl (by decide) rfl ?_
            refine x_iinc (L' := [some _, some _, some _, some _, some _, some _, some _]) (i := 43) (pc' := 80) rfl rfl rfl rfl (by decide) rfl ?_
            refine x_goto (i := 44) (pc' := 22) rfl (by decide) ?_
            (unfold ys at hk2; first | exact hk2 | (refine AW.le ?_ hk2; simp [lvle]; done) | ((repeat' split at hk2) <;> first | exact hk2 | (refine AW.le ?_ hk2; simp [lvle]; done) | (exfalso; omega)))
        · skip
          refine x_iload (i := 28) (pc' := 52) rfl rfl rfl ?_
          refine x_iload_n (i := 29) (pc' := 53) rfl rfl rfl rfl ?_
          refine x_icmple (i := 30) (pc' := 56) (tgt := 77) rfl rfl (by decide) ⟨by omega, by omega⟩ ⟨by omega, by omega⟩ (fun e5 => ?_) (fun e5 => ?_)
          · skip
            refine x_iinc (L' := [some _, some _, some _, some _, some _, some _, some _]) (i := 43) (pc' := 80) rfl rfl rfl rfl (by decide) rfl ?_
            refine x_goto (i := 44) (pc' := 22) rfl (by decide) ?_
            (unfold ys at hk2; first | exact hk2 | (refine AW.le ?_ hk2; simp [lvle]; done) | ((repeat' split at hk2) <;> first | exact hk2 | (refine AW.le ?_ hk2; simp [lvle]; done) | (exfalso; omega)))
          · skip
            refine x_goto (i := 31) (pc' := 65) rfl (by decide) ?_
            refine x_iload (i := 35) (pc' := 67) rfl rfl rfl ?_
            refine x_istore_n (L' := [some _, some _, some _, some _, some _, some _, some _]) (i := 36) (pc' := 68) rfl rfl rfl rfl (by decide) rfl ?_
            refine x_iload (i := 37) (pc' := 70) rfl rfl rfl ?_
            refine x_bipush (i := 38) (pc' := 72) rfl rfl (by decide) ?_
            refine x_imul (i := 39) (pc' := 73) rfl rfl ?_
            refine x_iload (i := 40) (pc' := 75) rfl rfl rfl ?_
            refine x_iadd (i := 41) (pc' := 76) rfl rfl ?_
            refine x_istore_n (L' := [some _, some _, some _, some _, some _, some _, some _]) (i := 42) (pc' := 77) rfl rfl rfl rfl (by decide) rfl ?_
            refine x_iinc (L' := [some _, some _, some _, some _, some _, some _, some _]) (i := 43) (pc' := 80) rfl rfl rfl rfl (by decide) rfl ?_
            refine x_goto (i := 44) (pc' := 22) rfl (by decide) ?_
            (unfold ys at hk2; first | exact hk2 | (refine AW.le ?_ hk2; simp [lvle]; done) | ((repeat' split at hk2) <;> first | exact hk2 | (refine AW.le ?_ hk2; simp [lvle]; done) | (exfalso; omega)))
    · skip
      refine x_iload (i := 14) (pc' := 24) rfl rfl rfl ?_
      refine x_aload_n (i := 15) (pc' := 25) rfl rfl rfl rfl ?_
      refine m_getf (i := 16) (pc' := 28) rfl rfl flX3_18 (sh2 G) rfl rfl ?_
      refine x_icmpge (i := 17) (pc' := 31) (tgt := 83) rfl rfl (by decide) ⟨by omega, by omega⟩ ⟨by omega, by omega⟩ (fun f1 => ?_) (fun f1 => by exfalso; omega)
      refine x_iinc (L' := [some _, some _, some _, some _, some _, some _, none]) (i := 45) (pc' := 86) rfl rfl rfl rfl (by decide) rfl ?_
      refine x_goto (i := 46) (pc' := 7) rfl (by decide) ?_
      (unfold yr at hk; first | exact hk | (refine AW.le ?_ hk; simp [lvle]; done) | ((repeat' split at hk) <;> first | exact hk | (refine AW.le ?_ hk; simp [lvle]; done) | (exfalso; omega)))
  · skip
    refine x_iload (i := 6) (pc' := 9) rfl rfl rfl ?_
    refine x_aload_n (i := 7) (pc' := 10) rfl rfl rfl rfl ?_
    refine m_getf (i := 8) (pc' := 13) rfl rfl flX3_18 (sh2 G) rfl rfl ?_
    refine x_icmpge (i := 9) (pc' := 16) (tgt := 89) rfl rfl (by decide) ⟨by omega, by omega⟩ ⟨by omega, by omega⟩ (fun c1 => ?_) (fun c1 => by exfalso; omega)
    refine x_iload_n (i := 47) (pc' := 90) rfl rfl rfl rfl ?_
    exact m_ireturn (i := 48) rfl rfl (by rw [Int.sub_zero]; exact hQ)
theorem s_X3_addRandom {G : GG} {m : Mem} {Q : Option Value → Mem → Prop} {a b : Int} (hM : MR m) (hn : CN m) (ha : rg a) (hb : rg b) (hQ : Q (some (.int (J (adn m a b)))) (adz m a b)) : CM G 4 mX3_addRandom [.ref (G.2.2.2 2), .int (J (a)), .int (J (b))] m Q := by
  refine CM.of dkX3_addRandom (Or.inl rfl) [some _, some _, some _, none, none, none, none, none, none, none] rfl (Nat.le_of_ble_eq_true rfl) ?_
  have hn0 := hn.1; have hn1 := hn.2
  refine x_iload_n (i := 0) (pc' := 1) rfl rfl rfl rfl ?_
  refine x_iconst (i := 1) (pc' := 2) rfl rfl ?_
  refine x_ldc (i := 2) (pc' := 4) rfl rfl kX3_62 ?_
  refine m_callS (i := 3) (pc' := 7) (av := [_, _, _]) (rest := []) rfl rfl (by decide) lX3_28 rfl rfl (Nat.le_of_ble_eq_true rfl) (Nat.le_refl _) (Nat.le_refl _) (s_X11_isWithin (by omega) (by omega) (by omega) ?_)
  dsimp only [psh]
  refine x_ifeq (i := 4) (pc' := 10) (tgt := 20) rfl rfl (by decide) (by (repeat' split at *) <;> omega) (fun c1 => ?_) (fun c1 => ?_)
  · skip
    refine x_bipush (i := 10) (pc' := 22) rfl rfl (by decide) ?_
    exact m_ireturn (i := 11) rfl rfl (by unfold adn adz at hQ; (repeat' split at hQ) <;> first | exact hQ | (exfalso; omega))
  · skip
    refine x_iload_n (i := 5) (pc' := 11) rfl rfl rfl rfl ?_
    refine x_iconst (i := 6) (pc' := 12) rfl rfl ?_
    refine x_bipush (i := 7) (pc' := 14) rfl rfl (by decide) ?_
    refine m_callS (i := 8) (pc' := 17) (av := [_, _, _]) (rest := []) rfl rfl (by decide) lX3_28 rfl rfl (Nat.le_of_ble_eq_true rfl) (Nat.le_refl _) (Nat.le_refl _) (s_X11_isWithin (by omega) (by omega) (by omega) ?_)
    dsimp only [psh]
    refine x_ifne (i := 9) (pc' := 20) (tgt := 23) rfl rfl (by decide) (by (repeat' split at *) <;> omega) (fun c2 => ?_) (fun c2 => ?_)
    · skip
      refine x_aload_n (i := 12) (pc' := 24) rfl rfl rfl rfl ?_
      refine m_getf (i := 13) (pc' := 27) rfl rfl flX3_18 (sh2 G) rfl rfl ?_
      refine x_istore_n (L' := [some _, some _, some _, some _, none, none, none, none, none, none]) (i := 14) (pc' := 28) rfl rfl rfl rfl (by decide) rfl ?_
      refine x_iload_n (i := 15) (pc' := 29) rfl rfl rfl rfl ?_
      refine x_i2l (i := 16) (pc' := 30) rfl rfl (by (repeat' split at *) <;> omega) ?_
      refine x_lstore (L' := [some _, some _, some _, some _, some _, none, none, none, none, none]) (i := 17) (pc' := 32) rfl rfl rfl (by decide) rfl ?_
      refine x_iconst (i := 18) (pc' := 33) rfl rfl ?_
      refine x_istore (L' := [some _, some _, some _, some _, some _, none, some _, none, none, none]) (i := 19) (pc' := 35) rfl rfl rfl (by decide) rfl ?_
      have hab : (0 ≤ a ∧ a ≤ 999999) ∧ (1 ≤ b ∧ b ≤ 16) := (by (repeat' split at *) <;> omega)
      unfold adn adz at hQ
      rw [if_pos hab, if_pos hab] at hQ
      refine up_ind1 (P := fun (j : Int) (x : Int × Mem) => BW G 4 mX3_addRandom Q 35 [some (.ref (G.2.2.2 2)), some (.int (J (a))), some (.int (J (b))), some (.int (J (m 2 2))), some (.long (JL (x.1))), none, some (.int (J (j))), none, none, none] [] x.2) (fun (j : Int) (x : Int × Mem) => rr x) (fun (j : Int) (x : Int × Mem) => RI x) (b) (0) ((a, m)) (by omega) (⟨by show 0 ≤ a ∧ a < 2147483648; omega, hM, hn⟩) (fun j x hj0 hj hi => rr_I hi) (fun j x hj0 hj hi hk => ?_) (fun hi => ?_)
      · skip
        refine x_iload (i := 20) (pc' := 37) rfl rfl rfl ?_
        refine x_iload_n (i := 21) (pc' := 38) rfl rfl rfl rfl ?_
        refine x_icmpge (i := 22) (pc' := 41) (tgt := 118) rfl rfl (by decide) ⟨by omega, by omega⟩ ⟨by omega, by omega⟩ (fun c1 => by exfalso; omega) (fun c1 => ?_)
        refine x_iconst (i := 23) (pc' := 42) rfl rfl ?_
        refine x_istore (L' := [some _, some _, some _, some _, some _, none, some _, some _, none, none]) (i := 24) (pc' := 44) rfl rfl rfl (by decide) rfl ?_
        refine up_ind1 (P := fun (w : Int) (y : Int × Mem) => BW G 4 mX3_addRandom Q 44 [some (.ref (G.2.2.2 2)), some (.int (J (a))), some (.int (J (b))), some (.int (J (m 2 2))), some (.long (JL (y.1))), none, some (.int (J (j))), some (.int (J (w))), none, none] [] y.2) (fun (w : Int) (y : Int × Mem) => ri w y) (fun (w : Int) (y : Int × Mem) => RI y) (5) (0) (x) (by omega) (hi) (fun w y hj02 hj2 hi2 => ri_I hi2) (fun w y hj02 hj2 hi2 hk2 => ?_) (fun hi2 => ?_)
        · have hx1 := hi2.1.1; have hx2 := hi2.1.2
          have hr : 0 ≤ rn y.1 ∧ rn y.1 < 2147483648 := (by unfold rn; omega)
          refine x_iload (i := 25) (pc' := 46) rfl rfl rfl ?_
          refine x_iconst (i := 26) (pc' := 47) rfl rfl ?_
          refine x_icmpgt (i := 27) (pc' := 50) (tgt := 107) rfl rfl (by decide) ⟨by omega, by omega⟩ ⟨by omega, by omega⟩ (fun e1 => by exfalso; omega) (fun e1 => ?_)
          refine x_lload (i := 28) (pc' := 52) rfl rfl rfl ?_
          refine x_ldc2 (i := 29) (pc' := 55) rfl rfl kX3_63 ?_
          refine x_lmul (i := 30) (pc' := 56) rfl rfl ?_
          refine x_ldc2 (i := 31) (pc' := 59) rfl rfl kX3_65 ?_
          refine x_ladd (i := 32) (pc' := 60) rfl rfl ?_
          refine x_ldc2 (i := 33) (pc' := 63) rfl rfl kX3_67 ?_
          refine x_lrem (i := 34) (pc' := 64) rfl rfl ⟨by omega, by omega⟩ ⟨by omega, by omega⟩ (by omega) (by omega) ?_
          refine x_lstore (L' := [some _, some _, some _, some _, some _, none, some _, some _, none, none]) (i := 35) (pc' := 66) rfl rfl rfl (by decide) rfl ?_
          refine x_iload (i := 36) (pc' := 68) rfl rfl rfl ?_
          refine x_iconst (i := 37) (pc' := 69) rfl rfl ?_
          refine x_icmpne (i := 38) (pc' := 72) (tgt := 78) rfl rfl (by decide) ⟨by omega, by omega⟩ ⟨by omega, by omega⟩ (fun e2 => ?_) (fun e2 => ?_)
          · skip
            refine x_ldc2 (i := 41) (pc' := 81) rfl rfl kX3_71 ?_
            refine x_lstore (L' := [some _, some _, some _, some _, some _, none, some _, some _, some _, none]) (i := 42) (pc' := 83) rfl rfl rfl (by decide) rfl ?_
            refine x_aload_n (i := 43) (pc' := 84) rfl rfl rfl rfl ?_
            refine x_bipush (i := 44) (pc' := 86) rfl rfl (by decide) ?_
            refine x_iload (i := 45) (pc' := 88) rfl rfl rfl ?_
            have h8 : (y.1 * 1103515245 + 12345) % 2147483648 = rn y.1 := rfl
            refine x_lload (i := 46) (pc' := 90) rfl rfl rfl ?_
            refine x_ldc2 (i := 47) (pc' := 93) rfl rfl kX3_73 ?_
            refine x_ldiv (i := 48) (pc' := 94) rfl rfl ⟨by omega, by omega⟩ ⟨by omega, by omega⟩ (by omega) (by omega) ?_
            refine x_lload (i := 49) (pc' := 96) rfl rfl rfl ?_
            refine x_lrem (i := 50) (pc' := 97) rfl rfl ⟨by omega, by omega⟩ ⟨by omega, by omega⟩ (by omega) (by omega) ?_
            refine x_l2i (i := 51) (pc' := 98) rfl rfl ?_
            refine m_callV (i := 52) (pc' := 101) (av := [_, _, _]) (rest := []) rfl rfl (by decide) lX3_32 (sh2 G) rfl rfl rfl rfl rfl (Nat.le_of_ble_eq_true rfl) (Nat.le_refl _) (Nat.le_refl _) (s_X3_setTrait (by omega) (by omega) ?_)
            dsimp only [psh]
            refine x_iinc (L' := [some _, some _, some _, some _, some _, none, some _, some _, some _, none]) (i := 53) (pc' := 104) rfl rfl rfl rfl (by decide) rfl ?_
            refine x_goto (i := 54) (pc' := 44) rfl (by decide) ?_
            (first | (have e9 : (if w = 4 then 4 else 8 : Int) = 4 := if_pos (by omega); unfold ri at hk2; rw [e9] at hk2; refine AW.le ?_ hk2; simp [lvle, rn]; done) | (have e9 : (if w = 4 then 4 else 8 : Int) = 8 := if_neg (by omega); unfold ri at hk2; rw [e9] at hk2; refine AW.le ?_ hk2; simp [lvle, rn]; done))
          · skip
            refine x_ldc2 (i := 39) (pc' := 75) rfl rfl kX3_69 ?_
            refine x_goto (i := 40) (pc' := 81) rfl (by decide) ?_
            refine x_lstore (L' := [some _, some _, some _, some _, some _, none, some _, some _, some _, none]) (i := 42) (pc' := 83) rfl rfl rfl (by decide) rfl ?_
            refine x_aload_n (i := 43) (pc' := 84) rfl rfl rfl rfl ?_
            refine x_bipush (i := 44) (pc' := 86) rfl rfl (by decide) ?_
            refine x_iload (i := 45) (pc' := 88) rfl rfl rfl ?_
            have h8 : (y.1 * 1103515245 + 12345) % 2147483648 = rn y.1 := rfl
            refine x_lload (i := 46) (pc' := 90) rfl rfl rfl ?_
            refine x_ldc2 (i := 47) (pc' := 93) rfl rfl kX3_73 ?_
            refine x_ldiv (i := 48) (pc' := 94) rfl rfl ⟨by omega, by omega⟩ ⟨by omega, by omega⟩ (by omega) (by omega) ?_
            refine x_lload (i := 49) (pc' := 96) rfl rfl rfl ?_
            refine x_lrem (i := 50) (pc' := 97) rfl rfl ⟨by omega, by omega⟩ ⟨by omega, by omega⟩ (by omega) (by omega) ?_
            refine x_l2i (i := 51) (pc' := 98) rfl rfl ?_
            refine m_callV (i := 52) (pc' := 101) (av := [_, _, _]) (rest := []) rfl rfl (by decide) lX3_32 (sh2 G) rfl rfl rfl rfl rfl (Nat.le_of_ble_eq_true rfl) (Nat.le_refl _) (Nat.le_refl _) (s_X3_setTrait (by omega) (by omega) ?_)
            dsimp only [psh]
            refine x_iinc (L' := [some _, some _, some _, some _, some _, none, some _, some _, some _, none]) (i := 53) (pc' := 104) rfl rfl rfl rfl (by decide) rfl ?_
            refine x_goto (i := 54) (pc' := 44) rfl (by decide) ?_
            (first | (have e9 : (if w = 4 then 4 else 8 : Int) = 4 := if_pos (by omega); unfold ri at hk2; rw [e9] at hk2; refine AW.le ?_ hk2; simp [lvle, rn]; done) | (have e9 : (if w = 4 then 4 else 8 : Int) = 8 := if_neg (by omega); unfold ri at hk2; rw [e9] at hk2; refine AW.le ?_ hk2; simp [lvle, rn]; done))
        · have hii := hi2
          refine x_iload (i := 25) (pc' := 46) rfl rfl rfl ?_
          refine x_iconst (i := 26) (pc' := 47) rfl rfl ?_
          refine x_icmpgt (i := 27) (pc' := 50) (tgt := 107) rfl rfl (by decide) ⟨by omega, by omega⟩ ⟨by omega, by omega⟩ (fun f1 => ?_) (fun f1 => by exfalso; omega)
          refine x_aload_n (i := 55) (pc' := 108) rfl rfl rfl rfl ?_
          refine m_callV (i := 56) (pc' := 111) (av := []) (rest := []) rfl rfl (by decide) lX3_44 (sh2 G) rfl rfl rfl rfl rfl (Nat.le_of_ble_eq_true rfl) (Nat.le_refl _) (Nat.le_refl _) (s_X3_appendAsked hii.2.1 hii.2.2 ?_)
          dsimp only [psh]
          refine x_pop (i := 57) (pc' := 112) rfl rfl rfl ?_
          refine x_iinc (L' := [some _, some _, some _, some _, some _, none, some _, some _, none, none]) (i := 58) (pc' := 115) rfl rfl rfl rfl (by decide) rfl ?_
          refine x_goto (i := 59) (pc' := 35) rfl (by decide) ?_
          (unfold rr at hk; first | exact hk | (refine AW.le ?_ hk; simp [lvle]; done) | ((repeat' split at hk) <;> first | exact hk | (refine AW.le ?_ hk; simp [lvle]; done) | (exfalso; omega)))
      · skip
        refine x_iload (i := 20) (pc' := 37) rfl rfl rfl ?_
        refine x_iload_n (i := 21) (pc' := 38) rfl rfl rfl rfl ?_
        refine x_icmpge (i := 22) (pc' := 41) (tgt := 118) rfl rfl (by decide) ⟨by omega, by omega⟩ ⟨by omega, by omega⟩ (fun c1 => ?_) (fun c1 => by exfalso; omega)
        refine x_aload_n (i := 60) (pc' := 119) rfl rfl rfl rfl ?_
        refine m_getf (i := 61) (pc' := 122) rfl rfl flX3_18 (sh2 G) rfl rfl ?_
        refine x_iload_n (i := 62) (pc' := 123) rfl rfl rfl rfl ?_
        refine x_isub (i := 63) (pc' := 124) rfl rfl ?_
        exact m_ireturn (i := 64) rfl rfl (by rw [Int.sub_zero]; exact hQ)
    · skip
      refine x_bipush (i := 10) (pc' := 22) rfl rfl (by decide) ?_
      exact m_ireturn (i := 11) rfl rfl (by unfold adn adz at hQ; (repeat' split at hQ) <;> first | exact hQ | (exfalso; omega))
