theorem lyl_MR {v pr : Int} (hp : rg pr) : ∀ (n : Nat) (j : Int) (m : Mem), MR m → MR (it (fun s (x : Mem) => if x 7 s = v then stm x 7 s pr else x) j n m)
  | 0, _, _, h => h
  | n + 1, j, m, h => by
    rw [it]
    refine lyl_MR hp n _ _ ?_
    split
    · exact h.st hp
    · exact h
def CKI (m : Mem) (j : Int) (x : (Int × Int) × Mem) : Prop := SW m x.2 ∧ MR x.2 ∧ (0 ≤ x.1.1 ∧ x.1.1 ≤ j) ∧ (0 ≤ x.1.2 ∧ x.1.2 ≤ j) ∧ (0 ≤ x.2 63 0 ∧ x.2 63 0 ≤ j * 16) ∧ (0 ≤ x.2 63 1 ∧ x.2 63 1 ≤ j * 16)
theorem ck_I {m : Mem} {j : Int} {x : (Int × Int) × Mem} (hj : 0 ≤ j ∧ j < 16) (h : CKI m j x) : CKI m (j + 1) (ck j x) := by
  obtain ⟨h1, h2, h3, h4, h5, h6⟩ := h
  have hm : 0 ≤ mn (x.1.2 + 1) x.1.1 ∧ mn (x.1.2 + 1) x.1.1 ≤ x.1.1 := by unfold mn; split <;> omega
  unfold ck
  split
  · refine ⟨h1.st (by decide) _ _, h2.st (by omega), by show (0 : Int) ≤ 0 ∧ (0 : Int) ≤ j + 1; omega, by show (0 : Int) ≤ 0 ∧ (0 : Int) ≤ j + 1; omega, ?_, ?_⟩
    · show 0 ≤ stm x.2 63 1 (x.2 63 1 + x.1.2) 63 0 ∧ stm x.2 63 1 (x.2 63 1 + x.1.2) 63 0 ≤ (j + 1) * 16
      rw [stm_ix _ _ _ (by decide)]; omega
    · show 0 ≤ stm x.2 63 1 (x.2 63 1 + x.1.2) 63 1 ∧ stm x.2 63 1 (x.2 63 1 + x.1.2) 63 1 ≤ (j + 1) * 16
      rw [stm_eq]; omega
  · split
    · refine ⟨h1.st (by decide) _ _, h2.st (by omega), by show 0 ≤ x.1.1 ∧ x.1.1 ≤ j + 1; omega, by show 0 ≤ mn (x.1.2 + 1) x.1.1 ∧ mn (x.1.2 + 1) x.1.1 ≤ j + 1; omega, ?_, ?_⟩
      · show 0 ≤ stm x.2 63 0 (x.2 63 0 + x.1.1) 63 0 ∧ stm x.2 63 0 (x.2 63 0 + x.1.1) 63 0 ≤ (j + 1) * 16
        rw [stm_eq]; omega
      · show 0 ≤ stm x.2 63 0 (x.2 63 0 + x.1.1) 63 1 ∧ stm x.2 63 0 (x.2 63 0 + x.1.1) 63 1 ≤ (j + 1) * 16
        rw [stm_ix _ _ _ (by decide)]; omega
    · exact ⟨h1, h2, by show 0 ≤ x.1.1 + 1 ∧ x.1.1 + 1 ≤ j + 1; omega, by show 0 ≤ x.1.2 ∧ x.1.2 ≤ j + 1; omega, by show 0 ≤ x.2 63 0 ∧ x.2 63 0 ≤ (j + 1) * 16; omega, by show 0 ≤ x.2 63 1 ∧ x.2 63 1 ≤ (j + 1) * 16; omega⟩
def PWI (m : Mem) (j : Int) (x : Mem) : Prop := SW m x ∧ MR x ∧ (0 ≤ x 64 1 ∧ x 64 1 ≤ 2 * j) ∧ (∀ n, 0 ≤ n → n < x 64 1 → 0 ≤ x 65 n ∧ x 65 n ≤ 5)
theorem pa_sp {m : Mem} {s : Int} (h : 0 ≤ m 64 1) (hp : ∀ n, 0 ≤ n → n < m 64 1 → 0 ≤ m 65 n ∧ m 65 n ≤ 5) : ∀ n, 0 ≤ n → n < pa m s 64 1 → 0 ≤ pa m s 65 n ∧ pa m s 65 n ≤ 5 := by
  unfold pa
  split
  · next hc =>
    intro n h0 h1
    rw [stm_eq] at h1
    rw [stm_ne _ _ _ (by decide)]
    by_cases hn : n = m 64 1
    · rw [hn, stm_eq]; omega
    · rw [stm_ix _ _ _ hn]; exact hp n h0 (by omega)
  · exact hp
theorem pw_I {m : Mem} {j : Int} {x : Mem} (hj : 0 ≤ j ∧ j < 16) (h : PWI m j x) : PWI m (j + 1) (pw j x) := by
  obtain ⟨h1, h2, h3, h4⟩ := h
  have a1 := pa_n (m := x) (s := x 6 (j * 3 + 1)) (by omega)
  have a2 := pa_MR h2 (h2 6 (j * 3 + 1)) (by omega)
  have a3 := pa_sp (s := x 6 (j * 3 + 1)) h3.1 h4
  have b1 := pa_n (m := pa x (x 6 (j * 3 + 1))) (s := (pa x (x 6 (j * 3 + 1))) 6 (j * 3 + 2)) (by omega)
  have b2 := pa_MR a2 (a2 6 (j * 3 + 2)) (by omega)
  have b3 := pa_sp (s := (pa x (x 6 (j * 3 + 1))) 6 (j * 3 + 2)) a1.1.1 a3
  exact ⟨(h1.pa _).pa _, b2, by unfold pw; omega, b3⟩
theorem s_X9_layOne {G : GG} {m : Mem} {Q : Option Value → Mem → Prop} {a v : Int} (hM : MR m) (h1 : rg a) (h2 : rg v) (hQ : Q (some (.int (J (if (0 ≤ a ∧ a ≤ 5) ∧ (0 ≤ v ∧ v ≤ 5) then m 7 a else -2)))) (if (0 ≤ a ∧ a ≤ 5) ∧ (0 ≤ v ∧ v ≤ 5) then lyo m a v else m)) : CM G 2 mX9_layOne [.ref (G.2.2.2 1), .int (J (a)), .int (J (v))] m Q := by
  refine CM.of dkX9_layOne (Or.inl rfl) [some _, some _, some _, none, none] rfl (Nat.le_of_ble_eq_true rfl) ?_
  refine x_iload_n (i := 0) (pc' := 1) rfl rfl rfl rfl ?_
  refine m_callS (i := 1) (pc' := 4) (av := [_]) (rest := []) rfl rfl (by decide) lX9_72 rfl rfl (Nat.le_of_ble_eq_true rfl) (Nat.le_refl _) (Nat.le_refl _) (s_X11_isSpot (by omega) ?_)
  dsimp only [psh]
  refine x_ifeq (i := 2) (pc' := 7) (tgt := 16) rfl rfl (by decide) (by (repeat' split at *) <;> omega) (fun c1 => ?_) (fun c1 => ?_)
  · skip
    refine x_bipush (i := 8) (pc' := 18) rfl rfl (by decide) ?_
    exact m_ireturn (i := 9) rfl rfl (by (repeat' split at hQ) <;> first | exact hQ | (exfalso; omega))
  · skip
    refine x_iload_n (i := 3) (pc' := 8) rfl rfl rfl rfl ?_
    refine x_iconst (i := 4) (pc' := 9) rfl rfl ?_
    refine x_iconst (i := 5) (pc' := 10) rfl rfl ?_
    refine m_callS (i := 6) (pc' := 13) (av := [_, _, _]) (rest := []) rfl rfl (by decide) lX9_64 rfl rfl (Nat.le_of_ble_eq_true rfl) (Nat.le_refl _) (Nat.le_refl _) (s_X11_isWithin (by omega) (by omega) (by omega) ?_)
    dsimp only [psh]
    refine x_ifne (i := 7) (pc' := 16) (tgt := 19) rfl rfl (by decide) (by (repeat' split at *) <;> omega) (fun c2 => ?_) (fun c2 => ?_)
    · skip
      refine x_aload_n (i := 10) (pc' := 20) rfl rfl rfl rfl ?_
      refine m_getf (i := 11) (pc' := 23) rfl rfl flX9_25 (sh1 G) rfl rfl ?_
      refine x_iload_n (i := 12) (pc' := 24) rfl rfl rfl rfl ?_
      refine m_iald (i := 13) (pc' := 25) rfl rfl (sh7 G) (by decide) ⟨by (repeat' split at *) <;> omega, by (repeat' split at *) <;> omega⟩ ?_
      refine x_istore_n (L' := [some _, some _, some _, some _, none]) (i := 14) (pc' := 26) rfl rfl rfl rfl (by decide) rfl ?_
      refine x_iconst (i := 15) (pc' := 27) rfl rfl ?_
      refine x_istore (L' := [some _, some _, some _, some _, some _]) (i := 16) (pc' := 29) rfl rfl rfl (by decide) rfl ?_
      have hav : (0 ≤ a ∧ a ≤ 5) ∧ (0 ≤ v ∧ v ≤ 5) := (by (repeat' split at *) <;> omega)
      rw [if_pos hav, if_pos hav] at hQ
      refine up_ind1 (P := fun (j : Int) (x : Mem) => BW G 2 mX9_layOne Q 29 [some (.ref (G.2.2.2 1)), some (.int (J (a))), some (.int (J (v))), some (.int (J (m 7 a))), some (.int (J (j)))] [] x) (fun (j : Int) (x : Mem) => if x 7 j = v then stm x 7 j (m 7 a) else x) (fun (j : Int) (x : Mem) => MR x) (6) (0) (m) (by omega) (hM) (fun j x hj0 hj hi => by split <;> first | exact hi.st (hM _ _) | exact hi) (fun j x hj0 hj hi hk => ?_) (fun hi => ?_)
      · skip
        refine x_iload (i := 17) (pc' := 31) rfl rfl rfl ?_
        refine x_bipush (i := 18) (pc' := 33) rfl rfl (by decide) ?_
        refine x_icmpge (i := 19) (pc' := 36) (tgt := 61) rfl rfl (by decide) (by first | omega | exact hi _ _) (by first | omega | exact hi _ _) (fun e1 => by exfalso; omega) (fun e1 => ?_)
        refine x_aload_n (i := 20) (pc' := 37) rfl rfl rfl rfl ?_
        refine m_getf (i := 21) (pc' := 40) rfl rfl flX9_25 (sh1 G) rfl rfl ?_
        refine x_iload (i := 22) (pc' := 42) rfl rfl rfl ?_
        refine m_iald (i := 23) (pc' := 43) rfl rfl (sh7 G) (by decide) ⟨by omega, by omega⟩ ?_
        refine x_iload_n (i := 24) (pc' := 44) rfl rfl rfl rfl ?_
        refine x_icmpne (i := 25) (pc' := 47) (tgt := 55) rfl rfl (by decide) (by first | omega | exact hi _ _) (by first | omega | exact hi _ _) (fun e2 => ?_) (fun e2 => ?_)
        · skip
          refine x_iinc (L' := [some _, some _, some _, some _, some _]) (i := 31) (pc' := 58) rfl rfl rfl rfl (by decide) rfl ?_
          refine x_goto (i := 32) (pc' := 29) rfl (by decide) ?_
          (first | exact hk | (refine AW.le ?_ hk; simp [lvle]; done) | ((repeat' split at hk) <;> first | exact hk | (refine AW.le ?_ hk; simp [lvle]; done) | (exfalso; omega)))
        · skip
          refine x_aload_n (i := 26) (pc' := 48) rfl rfl rfl rfl ?_
          refine m_getf (i := 27) (pc' := 51) rfl rfl flX9_25 (sh1 G) rfl rfl ?_
          refine x_iload (i := 28) (pc' := 53) rfl rfl rfl ?_
          refine x_iload_n (i := 29) (pc' := 54) rfl rfl rfl rfl ?_
          refine m_iast (i := 30) (pc' := 55) rfl rfl (sh7 G) (by decide) ⟨by omega, by omega⟩ ?_
          refine x_iinc (L' := [some _, some _, some _, some _, some _]) (i := 31) (pc' := 58) rfl rfl rfl rfl (by decide) rfl ?_
          refine x_goto (i := 32) (pc' := 29) rfl (by decide) ?_
          (first | exact hk | (refine AW.le ?_ hk; simp [lvle]; done) | ((repeat' split at hk) <;> first | exact hk | (refine AW.le ?_ hk; simp [lvle]; done) | (exfalso; omega)))
      · skip
        refine x_iload (i := 17) (pc' := 31) rfl rfl rfl ?_
        refine x_bipush (i := 18) (pc' := 33) rfl rfl (by decide) ?_
        refine x_icmpge (i := 19) (pc' := 36) (tgt := 61) rfl rfl (by decide) ⟨by omega, by omega⟩ ⟨by omega, by omega⟩ (fun f1 => ?_) (fun f1 => by exfalso; omega)
        refine x_aload_n (i := 33) (pc' := 62) rfl rfl rfl rfl ?_
        refine m_getf (i := 34) (pc' := 65) rfl rfl flX9_25 (sh1 G) rfl rfl ?_
        refine x_iload_n (i := 35) (pc' := 66) rfl rfl rfl rfl ?_
        refine x_iload_n (i := 36) (pc' := 67) rfl rfl rfl rfl ?_
        refine m_iast (i := 37) (pc' := 68) rfl rfl (sh7 G) (by decide) ⟨by omega, by omega⟩ ?_
        refine x_iload_n (i := 38) (pc' := 69) rfl rfl rfl rfl ?_
        exact m_ireturn (i := 39) rfl rfl (hQ)
    · skip
      refine x_bipush (i := 8) (pc' := 18) rfl rfl (by decide) ?_
      exact m_ireturn (i := 9) rfl rfl (by (repeat' split at hQ) <;> first | exact hQ | (exfalso; omega))
theorem s_X10_check {G : GG} {m : Mem} {Q : Option Value → Mem → Prop} (hM : MR m) (hs : SN m) (hwd : WDS m) (hQ : Q none (ckm m)) : CM G 3 mX10_check [.ref (G.2.2.2 63), .ref (G.2.2.2 1)] m Q := by
  refine CM.of dkX10_check (Or.inl rfl) [some _, some _, none, none, none, none] rfl (Nat.le_of_ble_eq_true rfl) ?_
  have hs0 := hs.1; have hs1 := hs.2
  refine x_aload_n (i := 0) (pc' := 1) rfl rfl rfl rfl ?_
  refine x_iconst (i := 1) (pc' := 2) rfl rfl ?_
  refine m_putf (kz := 0) (i := 2) (pc' := 5) rfl rfl flX10_9 (sh63 G) (fun _ => rfl) rfl (Nat.le_of_ble_eq_true rfl) rfl rfl ?_
  refine x_aload_n (i := 3) (pc' := 6) rfl rfl rfl rfl ?_
  refine x_iconst (i := 4) (pc' := 7) rfl rfl ?_
  refine m_putf (kz := 1) (i := 5) (pc' := 10) rfl rfl flX10_15 (sh63 G) (fun _ => rfl) rfl (Nat.le_of_ble_eq_true rfl) rfl rfl ?_
  refine x_iconst (i := 6) (pc' := 11) rfl rfl ?_
  refine x_istore_n (L' := [some _, some _, some _, none, none, none]) (i := 7) (pc' := 12) rfl rfl rfl rfl (by decide) rfl ?_
  refine x_iconst (i := 8) (pc' := 13) rfl rfl ?_
  refine x_istore_n (L' := [some _, some _, some _, some _, none, none]) (i := 9) (pc' := 14) rfl rfl rfl rfl (by decide) rfl ?_
  refine x_iconst (i := 10) (pc' := 15) rfl rfl ?_
  refine x_istore (L' := [some _, some _, some _, some _, some _, none]) (i := 11) (pc' := 17) rfl rfl rfl (by decide) rfl ?_
  skip
  refine up_ind1 (P := fun (j : Int) (x : (Int × Int) × Mem) => BW G 3 mX10_check Q 17 [some (.ref (G.2.2.2 63)), some (.ref (G.2.2.2 1)), some (.int (J (x.1.1))), some (.int (J (x.1.2))), some (.int (J (j))), none] [] x.2) (fun (j : Int) (x : (Int × Int) × Mem) => ck j x) (fun (j : Int) (x : (Int × Int) × Mem) => CKI m j x) (m 5 1) (0) (((0, 0), stm (stm m 63 0 0) 63 1 0)) (by omega) (⟨((SW.rf m).st (by decide) _ _).st (by decide) _ _, (hM.st (by decide)).st (by decide), by (show (0 : Int) ≤ 0 ∧ (0 : Int) ≤ 0; decide), by (show (0 : Int) ≤ 0 ∧ (0 : Int) ≤ 0; decide), by (show 0 ≤ stm (stm m 63 0 0) 63 1 0 63 0 ∧ stm (stm m 63 0 0) 63 1 0 63 0 ≤ 0 * 16; rw [stm_ix _ _ _ (by decide), stm_eq]; omega), by (show 0 ≤ stm (stm m 63 0 0) 63 1 0 63 1 ∧ stm (stm m 63 0 0) 63 1 0 63 1 ≤ 0 * 16; rw [stm_eq]; omega)⟩) (fun j x hj0 hj hi => ck_I (by omega) hi) (fun j x hj0 hj hi hk => ?_) (fun hi => ?_)
  · obtain ⟨g1, g2, g3, g4, g5, g6⟩ := hi
    have k1 := g1.sn hs; have k2 := g1.wds hwd; have k3 := congrFun g1.2.2.1 1
    have k6 : rg (sw x.2 j) := g2 _ _
    refine x_iload (i := 12) (pc' := 19) rfl rfl rfl ?_
    refine x_aload_n (i := 13) (pc' := 20) rfl rfl rfl rfl ?_
    refine m_getf (i := 14) (pc' := 23) rfl rfl flX10_18 (sh1 G) rfl rfl ?_
    refine m_getf (i := 15) (pc' := 26) rfl rfl flX10_24 (sh5 G) rfl rfl ?_
    refine x_icmpge (i := 16) (pc' := 29) (tgt := 95) rfl rfl (by decide) ⟨by omega, by omega⟩ ⟨by omega, by omega⟩ (fun c1 => by exfalso; omega) (fun c1 => ?_)
    refine x_aload_n (i := 17) (pc' := 30) rfl rfl rfl rfl ?_
    refine x_iload (i := 18) (pc' := 32) rfl rfl rfl ?_
    refine m_callV (i := 19) (pc' := 35) (av := [_]) (rest := []) rfl rfl (by decide) lX10_29 (sh1 G) rfl rfl rfl rfl rfl (Nat.le_of_ble_eq_true rfl) (Nat.le_refl _) (Nat.le_refl _) (s_X9_sortOfWord k1 k2 (by omega) ?_)
    dsimp only [psh]
    refine x_istore (L' := [some _, some _, some _, some _, some _, some _]) (i := 20) (pc' := 37) rfl rfl rfl (by decide) rfl ?_
    refine x_iload (i := 21) (pc' := 39) rfl rfl rfl ?_
    refine x_iconst (i := 22) (pc' := 40) rfl rfl ?_
    refine x_icmpne (i := 23) (pc' := 43) (tgt := 60) rfl rfl (by decide) ⟨by omega, by omega⟩ ⟨by omega, by omega⟩ (fun c2 => ?_) (fun c2 => ?_)
    · skip
      refine x_iload (i := 35) (pc' := 62) rfl rfl rfl ?_
      refine x_ifne (i := 36) (pc' := 65) (tgt := 86) rfl rfl (by decide) ⟨by omega, by omega⟩ (fun c3 => ?_) (fun c3 => ?_)
      · skip
        refine x_iinc (L' := [some _, some _, some _, some _, some _, some _]) (i := 50) (pc' := 89) rfl rfl rfl rfl (by decide) rfl ?_
        refine x_iinc (L' := [some _, some _, some _, some _, some _, some _]) (i := 51) (pc' := 92) rfl rfl rfl rfl (by decide) rfl ?_
        refine x_goto (i := 52) (pc' := 17) rfl (by decide) ?_
        (unfold ck at hk; first | exact hk | (refine AW.le ?_ hk; simp [lvle]; done) | ((repeat' split at hk) <;> first | exact hk | (refine AW.le ?_ hk; simp [lvle]; done) | (exfalso; omega)))
      · skip
        refine x_aload_n (i := 37) (pc' := 66) rfl rfl rfl rfl ?_
        refine x_dup (i := 38) (pc' := 67) rfl rfl rfl ?_
        refine m_getf (i := 39) (pc' := 70) rfl rfl flX10_9 (sh63 G) rfl rfl ?_
        refine x_iload_n (i := 40) (pc' := 71) rfl rfl rfl rfl ?_
        refine x_iadd (i := 41) (pc' := 72) rfl rfl ?_
        refine m_putf (kz := 0) (i := 42) (pc' := 75) rfl rfl flX10_9 (sh63 G) (fun _ => rfl) rfl (Nat.le_of_ble_eq_true rfl) rfl rfl ?_
        refine x_iload_n (i := 43) (pc' := 76) rfl rfl rfl rfl ?_
        refine x_iconst (i := 44) (pc' := 77) rfl rfl ?_
        refine x_iadd (i := 45) (pc' := 78) rfl rfl ?_
        refine x_iload_n (i := 46) (pc' := 79) rfl rfl rfl rfl ?_
        refine m_callS (i := 47) (pc' := 82) (av := [_, _]) (rest := []) rfl rfl (by decide) lX10_33 rfl rfl (Nat.le_of_ble_eq_true rfl) (Nat.le_refl _) (Nat.le_refl _) (s_J9_min_7cf53 (by omega) (by omega) ?_)
        dsimp only [psh]
        refine x_istore_n (L' := [some _, some _, some _, some _, some _, some _]) (i := 48) (pc' := 83) rfl rfl rfl rfl (by decide) rfl ?_
        refine x_goto (i := 49) (pc' := 89) rfl (by decide) ?_
        refine x_iinc (L' := [some _, some _, some _, some _, some _, some _]) (i := 51) (pc' := 92) rfl rfl rfl rfl (by decide) rfl ?_
        refine x_goto (i := 52) (pc' := 17) rfl (by decide) ?_
        (unfold ck at hk; first | exact hk | (refine AW.le ?_ hk; simp [lvle]; done) | ((repeat' split at hk) <;> first | exact hk | (refine AW.le ?_ hk; simp [lvle]; done) | (exfalso; omega)))
    · skip
      refine x_aload_n (i := 24) (pc' := 44) rfl rfl rfl rfl ?_
      refine x_dup (i := 25) (pc' := 45) rfl rfl rfl ?_
      refine m_getf (i := 26) (pc' := 48) rfl rfl flX10_15 (sh63 G) rfl rfl ?_
      refine x_iload_n (i := 27) (pc' := 49) rfl rfl rfl rfl ?_
      refine x_iadd (i := 28) (pc' := 50) rfl rfl ?_
      refine m_putf (kz := 1) (i := 29) (pc' := 53) rfl rfl flX10_15 (sh63 G) (fun _ => rfl) rfl (Nat.le_of_ble_eq_true rfl) rfl rfl ?_
      refine x_iconst (i := 30) (pc' := 54) rfl rfl ?_
      refine x_istore_n (L' := [some _, some _, some _, some _, some _, some _]) (i := 31) (pc' := 55) rfl rfl rfl rfl (by decide) rfl ?_
      refine x_iconst (i := 32) (pc' := 56) rfl rfl ?_
      refine x_istore_n (L' := [some _, some _, some _, some _, some _, some _]) (i := 33) (pc' := 57) rfl rfl rfl rfl (by decide) rfl ?_
      refine x_goto (i := 34) (pc' := 89) rfl (by decide) ?_
      refine x_iinc (L' := [some _, some _, some _, some _, some _, some _]) (i := 51) (pc' := 92) rfl rfl rfl rfl (by decide) rfl ?_
      refine x_goto (i := 52) (pc' := 17) rfl (by decide) ?_
      (unfold ck at hk; first | exact hk | (refine AW.le ?_ hk; simp [lvle]; done) | ((repeat' split at hk) <;> first | exact hk | (refine AW.le ?_ hk; simp [lvle]; done) | (exfalso; omega)))
  · have k3 := congrFun hi.1.2.2.1 1
    refine x_iload (i := 12) (pc' := 19) rfl rfl rfl ?_
    refine x_aload_n (i := 13) (pc' := 20) rfl rfl rfl rfl ?_
    refine m_getf (i := 14) (pc' := 23) rfl rfl flX10_18 (sh1 G) rfl rfl ?_
    refine m_getf (i := 15) (pc' := 26) rfl rfl flX10_24 (sh5 G) rfl rfl ?_
    refine x_icmpge (i := 16) (pc' := 29) (tgt := 95) rfl rfl (by decide) ⟨by omega, by omega⟩ ⟨by omega, by omega⟩ (fun c1 => ?_) (fun c1 => by exfalso; omega)
    refine x_aload_n (i := 53) (pc' := 96) rfl rfl rfl rfl ?_
    refine x_dup (i := 54) (pc' := 97) rfl rfl rfl ?_
    refine m_getf (i := 55) (pc' := 100) rfl rfl flX10_15 (sh63 G) rfl rfl ?_
    refine x_iload_n (i := 56) (pc' := 101) rfl rfl rfl rfl ?_
    refine x_iadd (i := 57) (pc' := 102) rfl rfl ?_
    refine m_putf (kz := 1) (i := 58) (pc' := 105) rfl rfl flX10_15 (sh63 G) (fun _ => rfl) rfl (Nat.le_of_ble_eq_true rfl) rfl rfl ?_
    exact m_return (i := 59) rfl rfl (by rw [Int.sub_zero]; exact hQ)
theorem s_X6_add {G : GG} {m : Mem} {Q : Option Value → Mem → Prop} {a : Int} (h1 : rg a) (h2 : 0 ≤ m 64 1 ∧ m 64 1 ≤ 32) (hQ : Q none (pa m a)) : CM G 2 mX6_add [.ref (G.2.2.2 64), .int (J (a))] m Q := by
  refine CM.of dkX6_add (Or.inl rfl) [some _, some _] rfl (Nat.le_of_ble_eq_true rfl) ?_
  refine x_iload_n (i := 0) (pc' := 1) rfl rfl rfl rfl ?_
  refine m_callS (i := 1) (pc' := 4) (av := [_]) (rest := []) rfl rfl (by decide) lX6_33 rfl rfl (Nat.le_of_ble_eq_true rfl) (Nat.le_refl _) (Nat.le_refl _) (s_X11_isSpot (by omega) ?_)
  dsimp only [psh]
  refine x_ifeq (i := 2) (pc' := 7) (tgt := 39) rfl rfl (by decide) (by (repeat' split at *) <;> omega) (fun c1 => ?_) (fun c1 => ?_)
  · skip
    exact m_return (i := 21) rfl rfl (by unfold pa at hQ; (repeat' split at hQ) <;> first | exact hQ | (exfalso; omega))
  · skip
    refine x_aload_n (i := 3) (pc' := 8) rfl rfl rfl rfl ?_
    refine m_getf (i := 4) (pc' := 11) rfl rfl flX6_15 (sh64 G) rfl rfl ?_
    refine x_aload_n (i := 5) (pc' := 12) rfl rfl rfl rfl ?_
    refine m_getf (i := 6) (pc' := 15) rfl rfl flX6_9 (sh64 G) rfl rfl ?_
    refine m_alen (i := 7) (pc' := 16) rfl rfl (sh65 G) ?_
    refine x_icmpge (i := 8) (pc' := 19) (tgt := 39) rfl rfl (by decide) (by (repeat' split at *) <;> omega) (by (repeat' split at *) <;> omega) (fun c2 => ?_) (fun c2 => ?_)
    · skip
      exact m_return (i := 21) rfl rfl (by unfold pa at hQ; (repeat' split at hQ) <;> first | exact hQ | (exfalso; omega))
    · skip
      refine x_aload_n (i := 9) (pc' := 20) rfl rfl rfl rfl ?_
      refine m_getf (i := 10) (pc' := 23) rfl rfl flX6_9 (sh64 G) rfl rfl ?_
      refine x_aload_n (i := 11) (pc' := 24) rfl rfl rfl rfl ?_
      refine m_getf (i := 12) (pc' := 27) rfl rfl flX6_15 (sh64 G) rfl rfl ?_
      refine x_iload_n (i := 13) (pc' := 28) rfl rfl rfl rfl ?_
      refine m_iast (i := 14) (pc' := 29) rfl rfl (sh65 G) (by decide) ⟨by (repeat' split at *) <;> omega, by (repeat' split at *) <;> omega⟩ ?_
      refine x_aload_n (i := 15) (pc' := 30) rfl rfl rfl rfl ?_
      refine x_dup (i := 16) (pc' := 31) rfl rfl rfl ?_
      refine m_getf (i := 17) (pc' := 34) rfl rfl flX6_15 (sh64 G) rfl rfl ?_
      refine x_iconst (i := 18) (pc' := 35) rfl rfl ?_
      refine x_iadd (i := 19) (pc' := 36) rfl rfl ?_
      refine m_putf (kz := 1) (i := 20) (pc' := 39) rfl rfl flX6_15 (sh64 G) (fun _ => rfl) rfl (Nat.le_of_ble_eq_true rfl) rfl rfl ?_
      exact m_return (i := 21) rfl rfl (by unfold pa at hQ; (repeat' split at hQ) <;> first | exact hQ | (exfalso; omega))
theorem s_X6_follow {G : GG} {m : Mem} {Q : Option Value → Mem → Prop} (hM : MR m) (hs : SN m) (hQ : Q none (fwm m)) : CM G 3 mX6_follow [.ref (G.2.2.2 64), .ref (G.2.2.2 5)] m Q := by
  refine CM.of dkX6_follow (Or.inl rfl) [some _, some _, none] rfl (Nat.le_of_ble_eq_true rfl) ?_
  have hs0 := hs.1; have hs1 := hs.2
  refine x_aload_n (i := 0) (pc' := 1) rfl rfl rfl rfl ?_
  refine x_iconst (i := 1) (pc' := 2) rfl rfl ?_
  refine m_putf (kz := 1) (i := 2) (pc' := 5) rfl rfl flX6_15 (sh64 G) (fun _ => rfl) rfl (Nat.le_of_ble_eq_true rfl) rfl rfl ?_
  refine x_iconst (i := 3) (pc' := 6) rfl rfl ?_
  refine x_istore_n (L' := [some _, some _, some _]) (i := 4) (pc' := 7) rfl rfl rfl rfl (by decide) rfl ?_
  skip
  refine up_ind1 (P := fun (j : Int) (x : Mem) => BW G 3 mX6_follow Q 7 [some (.ref (G.2.2.2 64)), some (.ref (G.2.2.2 5)), some (.int (J (j)))] [] x) (fun (j : Int) (x : Mem) => pw j x) (fun (j : Int) (x : Mem) => PWI m j x) (m 5 1) (0) (stm m 64 1 0) (by omega) (⟨(SW.rf m).st (by decide) _ _, hM.st (by decide), by (rw [stm_eq]; decide), fun n h1 h2 => by (rw [stm_eq] at h2; omega)⟩) (fun j x hj0 hj hi => pw_I (by omega) hi) (fun j x hj0 hj hi hk => ?_) (fun hi => ?_)
  · obtain ⟨g1, g2, g3, g4⟩ := hi
    have k1 := g1.sn hs; have k3 := congrFun g1.2.2.1 1
    have a1 := pa_n (m := x) (s := x 6 (j * 3 + 1)) (by omega)
    have a2 := pa_MR g2 (g2 6 (j * 3 + 1)) (by omega)
    have l1 := (g1.pa (x 6 (j * 3 + 1))); have l2 := l1.sn hs; have l3 := congrFun l1.2.2.1 1
    refine x_iload_n (i := 5) (pc' := 8) rfl rfl rfl rfl ?_
    refine x_aload_n (i := 6) (pc' := 9) rfl rfl rfl rfl ?_
    refine m_getf (i := 7) (pc' := 12) rfl rfl flX6_19 (sh5 G) rfl rfl ?_
    refine x_icmpge (i := 8) (pc' := 15) (tgt := 39) rfl rfl (by decide) ⟨by omega, by omega⟩ ⟨by omega, by omega⟩ (fun c1 => by exfalso; omega) (fun c1 => ?_)
    refine x_aload_n (i := 9) (pc' := 16) rfl rfl rfl rfl ?_
    refine x_aload_n (i := 10) (pc' := 17) rfl rfl rfl rfl ?_
    refine x_iload_n (i := 11) (pc' := 18) rfl rfl rfl rfl ?_
    refine m_callV (i := 12) (pc' := 21) (av := [_]) (rest := [_]) rfl rfl (by decide) lX6_22 (sh5 G) rfl rfl rfl rfl rfl (Nat.le_of_ble_eq_true rfl) (Nat.le_refl _) (Nat.le_refl _) (s_X8_from k1 (by omega) ?_)
    dsimp only [psh]
    refine m_callV (i := 13) (pc' := 24) (av := [_]) (rest := []) rfl rfl (by decide) lX6_26 (sh64 G) rfl rfl rfl rfl rfl (Nat.le_of_ble_eq_true rfl) (Nat.le_refl _) (Nat.le_refl _) (s_X6_add (g2 _ _) (by omega) ?_)
    dsimp only [psh]
    refine x_aload_n (i := 14) (pc' := 25) rfl rfl rfl rfl ?_
    refine x_aload_n (i := 15) (pc' := 26) rfl rfl rfl rfl ?_
    refine x_iload_n (i := 16) (pc' := 27) rfl rfl rfl rfl ?_
    refine m_callV (i := 17) (pc' := 30) (av := [_]) (rest := [_]) rfl rfl (by decide) lX6_30 (sh5 G) rfl rfl rfl rfl rfl (Nat.le_of_ble_eq_true rfl) (Nat.le_refl _) (Nat.le_refl _) (s_X8_to l2 (by omega) ?_)
    dsimp only [psh]
    refine m_callV (i := 18) (pc' := 33) (av := [_]) (rest := []) rfl rfl (by decide) lX6_26 (sh64 G) rfl rfl rfl rfl rfl (Nat.le_of_ble_eq_true rfl) (Nat.le_refl _) (Nat.le_refl _) (s_X6_add (a2 _ _) (by omega) ?_)
    dsimp only [psh]
    refine x_iinc (L' := [some _, some _, some _]) (i := 19) (pc' := 36) rfl rfl rfl rfl (by decide) rfl ?_
    refine x_goto (i := 20) (pc' := 7) rfl (by decide) ?_
    (unfold pw at hk; first | exact hk | (refine AW.le ?_ hk; simp [lvle]; done) | ((repeat' split at hk) <;> first | exact hk | (refine AW.le ?_ hk; simp [lvle]; done) | (exfalso; omega)))
  · have k3 := congrFun hi.1.2.2.1 1
    refine x_iload_n (i := 5) (pc' := 8) rfl rfl rfl rfl ?_
    refine x_aload_n (i := 6) (pc' := 9) rfl rfl rfl rfl ?_
    refine m_getf (i := 7) (pc' := 12) rfl rfl flX6_19 (sh5 G) rfl rfl ?_
    refine x_icmpge (i := 8) (pc' := 15) (tgt := 39) rfl rfl (by decide) ⟨by omega, by omega⟩ ⟨by omega, by omega⟩ (fun c1 => ?_) (fun c1 => by exfalso; omega)
    exact m_return (i := 21) rfl rfl (by rw [Int.sub_zero]; exact hQ)
theorem s_X6_spot {G : GG} {m : Mem} {Q : Option Value → Mem → Prop} {a : Int} (hc : 0 ≤ m 64 1 ∧ m 64 1 ≤ 32) (ha : 0 ≤ a ∧ a < m 64 1) (hQ : Q (some (.int (J (m 65 a)))) m) : CM G 1 mX6_spot [.ref (G.2.2.2 64), .int (J (a))] m Q := by
  refine CM.of dkX6_spot (Or.inl rfl) [some _, some _] rfl (Nat.le_of_ble_eq_true rfl) ?_
  refine x_iload_n (i := 0) (pc' := 1) rfl rfl rfl rfl ?_
  refine x_iconst (i := 1) (pc' := 2) rfl rfl ?_
  refine x_aload_n (i := 2) (pc' := 3) rfl rfl rfl rfl ?_
  refine m_getf (i := 3) (pc' := 6) rfl rfl flX6_15 (sh64 G) rfl rfl ?_
  refine x_iconst (i := 4) (pc' := 7) rfl rfl ?_
  refine x_isub (i := 5) (pc' := 8) rfl rfl ?_
  refine m_callS (i := 6) (pc' := 11) (av := [_, _, _]) (rest := []) rfl rfl (by decide) lX6_37 rfl rfl (Nat.le_of_ble_eq_true rfl) (Nat.le_refl _) (Nat.le_refl _) (s_X11_isWithin (by omega) (by omega) (by omega) ?_)
  dsimp only [psh]
  refine x_ifeq (i := 7) (pc' := 14) (tgt := 23) rfl rfl (by decide) (by (repeat' split at *) <;> omega) (fun c1 => by exfalso; (repeat' split at *) <;> omega) (fun c1 => ?_)
  refine x_aload_n (i := 8) (pc' := 15) rfl rfl rfl rfl ?_
  refine m_getf (i := 9) (pc' := 18) rfl rfl flX6_9 (sh64 G) rfl rfl ?_
  refine x_iload_n (i := 10) (pc' := 19) rfl rfl rfl rfl ?_
  refine m_iald (i := 11) (pc' := 20) rfl rfl (sh65 G) (by decide) ⟨by omega, by omega⟩ ?_
  refine x_goto (i := 12) (pc' := 24) rfl (by decide) ?_
  exact m_ireturn (i := 14) rfl rfl (hQ)
theorem s_X9_position {G : GG} {m : Mem} {Q : Option Value → Mem → Prop} {a : Int} (ha : 0 ≤ a ∧ a ≤ 5) (hQ : Q (some (.int (J (m 7 a)))) m) : CM G 2 mX9_position [.ref (G.2.2.2 1), .int (J (a))] m Q := by
  refine CM.of dkX9_position (Or.inl rfl) [some _, some _] rfl (Nat.le_of_ble_eq_true rfl) ?_
  refine x_iload_n (i := 0) (pc' := 1) rfl rfl rfl rfl ?_
  refine m_callS (i := 1) (pc' := 4) (av := [_]) (rest := []) rfl rfl (by decide) lX9_72 rfl rfl (Nat.le_of_ble_eq_true rfl) (Nat.le_refl _) (Nat.le_refl _) (s_X11_isSpot (by omega) ?_)
  dsimp only [psh]
  refine x_ifeq (i := 2) (pc' := 7) (tgt := 16) rfl rfl (by decide) (by (repeat' split at *) <;> omega) (fun c1 => by exfalso; (repeat' split at *) <;> omega) (fun c1 => ?_)
  refine x_aload_n (i := 3) (pc' := 8) rfl rfl rfl rfl ?_
  refine m_getf (i := 4) (pc' := 11) rfl rfl flX9_25 (sh1 G) rfl rfl ?_
  refine x_iload_n (i := 5) (pc' := 12) rfl rfl rfl rfl ?_
  refine m_iald (i := 6) (pc' := 13) rfl rfl (sh7 G) (by decide) ⟨by omega, by omega⟩ ?_
  refine x_goto (i := 7) (pc' := 17) rfl (by decide) ?_
  exact m_ireturn (i := 9) rfl rfl (hQ)
theorem s_X6_lengthIn {G : GG} {m : Mem} {Q : Option Value → Mem → Prop} (hc : 0 ≤ m 64 1 ∧ m 64 1 ≤ 32) (hp : ∀ n, 0 ≤ n → n < m 64 1 → 0 ≤ m 65 n ∧ m 65 n ≤ 5) (ho : ∀ s, 0 ≤ s → s ≤ 5 → 0 ≤ m 7 s ∧ m 7 s ≤ 5) (hQ : Q (some (.int (J (ple m)))) m) : CM G 3 mX6_lengthIn [.ref (G.2.2.2 64), .ref (G.2.2.2 1)] m Q := by
  refine CM.of dkX6_lengthIn (Or.inl rfl) [some _, some _, none, none] rfl (Nat.le_of_ble_eq_true rfl) ?_
  refine x_iconst (i := 0) (pc' := 1) rfl rfl ?_
  refine x_istore_n (L' := [some _, some _, some _, none]) (i := 1) (pc' := 2) rfl rfl rfl rfl (by decide) rfl ?_
  refine x_iconst (i := 2) (pc' := 3) rfl rfl ?_
  refine x_istore_n (L' := [some _, some _, some _, some _]) (i := 3) (pc' := 4) rfl rfl rfl rfl (by decide) rfl ?_
  skip
  by_cases hz : m 64 1 < 1
  · have e0 : ple m = 0 := (by unfold ple; rw [show (m 64 1 - 1).toNat = 0 by omega]; rfl)
    rw [e0] at hQ
    refine x_iload_n (i := 4) (pc' := 5) rfl rfl rfl rfl ?_
    refine x_aload_n (i := 5) (pc' := 6) rfl rfl rfl rfl ?_
    refine m_getf (i := 6) (pc' := 9) rfl rfl flX6_15 (sh64 G) rfl rfl ?_
    refine x_icmpge (i := 7) (pc' := 12) (tgt := 45) rfl rfl (by decide) ⟨by omega, by omega⟩ ⟨by omega, by omega⟩ (fun c1 => ?_) (fun c1 => by exfalso; omega)
    refine x_iload_n (i := 27) (pc' := 46) rfl rfl rfl rfl ?_
    exact m_ireturn (i := 28) rfl rfl (hQ)
  · skip
    refine up_ind0 (P := fun (j : Int) (x : Int) => BW G 3 mX6_lengthIn Q 4 [some (.ref (G.2.2.2 64)), some (.ref (G.2.2.2 1)), some (.int (J (x))), some (.int (J (j)))] [] m) (fun (j : Int) (x : Int) => x + ab (m 7 (m 65 j) - m 7 (m 65 (j - 1)))) (m 64 1) (1) (0) (by omega) (fun j x hj0 hj hk => ?_) ?_
    · have q1 := hp j (by omega) (by omega); have q2 := hp (j - 1) (by omega) (by omega)
      have o1 := ho _ q1.1 q1.2; have o2 := ho _ q2.1 q2.2
      refine x_iload_n (i := 4) (pc' := 5) rfl rfl rfl rfl ?_
      refine x_aload_n (i := 5) (pc' := 6) rfl rfl rfl rfl ?_
      refine m_getf (i := 6) (pc' := 9) rfl rfl flX6_15 (sh64 G) rfl rfl ?_
      refine x_icmpge (i := 7) (pc' := 12) (tgt := 45) rfl rfl (by decide) ⟨by omega, by omega⟩ ⟨by omega, by omega⟩ (fun c1 => by exfalso; omega) (fun c1 => ?_)
      refine x_iload_n (i := 8) (pc' := 13) rfl rfl rfl rfl ?_
      refine x_aload_n (i := 9) (pc' := 14) rfl rfl rfl rfl ?_
      refine x_aload_n (i := 10) (pc' := 15) rfl rfl rfl rfl ?_
      refine x_iload_n (i := 11) (pc' := 16) rfl rfl rfl rfl ?_
      refine m_callV (i := 12) (pc' := 19) (av := [_]) (rest := [_, _]) rfl rfl (by decide) lX6_41 (sh64 G) rfl rfl rfl rfl rfl (Nat.le_of_ble_eq_true rfl) (Nat.le_refl _) (Nat.le_refl _) (s_X6_spot (by omega) (by omega) ?_)
      dsimp only [psh]
      refine m_callV (i := 13) (pc' := 22) (av := [_]) (rest := [_]) rfl rfl (by decide) lX6_44 (sh1 G) rfl rfl rfl rfl rfl (Nat.le_of_ble_eq_true rfl) (Nat.le_refl _) (Nat.le_refl _) (s_X9_position q1 ?_)
      dsimp only [psh]
      refine x_aload_n (i := 14) (pc' := 23) rfl rfl rfl rfl ?_
      refine x_aload_n (i := 15) (pc' := 24) rfl rfl rfl rfl ?_
      refine x_iload_n (i := 16) (pc' := 25) rfl rfl rfl rfl ?_
      refine x_iconst (i := 17) (pc' := 26) rfl rfl ?_
      refine x_isub (i := 18) (pc' := 27) rfl rfl ?_
      refine m_callV (i := 19) (pc' := 30) (av := [_]) (rest := [_, _, _]) rfl rfl (by decide) lX6_41 (sh64 G) rfl rfl rfl rfl rfl (Nat.le_of_ble_eq_true rfl) (Nat.le_refl _) (Nat.le_refl _) (s_X6_spot (by omega) (by omega) ?_)
      dsimp only [psh]
      refine m_callV (i := 20) (pc' := 33) (av := [_]) (rest := [_, _]) rfl rfl (by decide) lX6_44 (sh1 G) rfl rfl rfl rfl rfl (Nat.le_of_ble_eq_true rfl) (Nat.le_refl _) (Nat.le_refl _) (s_X9_position q2 ?_)
      dsimp only [psh]
      refine x_isub (i := 21) (pc' := 34) rfl rfl ?_
      refine m_callS (i := 22) (pc' := 37) (av := [_]) (rest := [_]) rfl rfl (by decide) lX6_49 rfl rfl (Nat.le_of_ble_eq_true rfl) (Nat.le_refl _) (Nat.le_refl _) (s_J9_abs_0f7a4 (by omega) ?_)
      dsimp only [psh]
      refine x_iadd (i := 23) (pc' := 38) rfl rfl ?_
      refine x_istore_n (L' := [some _, some _, some _, some _]) (i := 24) (pc' := 39) rfl rfl rfl rfl (by decide) rfl ?_
      refine x_iinc (L' := [some _, some _, some _, some _]) (i := 25) (pc' := 42) rfl rfl rfl rfl (by decide) rfl ?_
      refine x_goto (i := 26) (pc' := 4) rfl (by decide) ?_
      (first | exact hk | (refine AW.le ?_ hk; simp [lvle]; done) | ((repeat' split at hk) <;> first | exact hk | (refine AW.le ?_ hk; simp [lvle]; done) | (exfalso; omega)))
    · skip
      refine x_iload_n (i := 4) (pc' := 5) rfl rfl rfl rfl ?_
      refine x_aload_n (i := 5) (pc' := 6) rfl rfl rfl rfl ?_
      refine m_getf (i := 6) (pc' := 9) rfl rfl flX6_15 (sh64 G) rfl rfl ?_
      refine x_icmpge (i := 7) (pc' := 12) (tgt := 45) rfl rfl (by decide) ⟨by omega, by omega⟩ ⟨by omega, by omega⟩ (fun c1 => ?_) (fun c1 => by exfalso; omega)
      refine x_iload_n (i := 27) (pc' := 46) rfl rfl rfl rfl ?_
      exact m_ireturn (i := 28) rfl rfl (hQ)
theorem s_X6_setOfSpots {G : GG} {m : Mem} {Q : Option Value → Mem → Prop} (hc : 0 ≤ m 64 1 ∧ m 64 1 ≤ 32) (hp : ∀ n, 0 ≤ n → n < m 64 1 → 0 ≤ m 65 n ∧ m 65 n ≤ 5) (hQ : Q (some (.int (J (pss m)))) m) : CM G 2 mX6_setOfSpots [.ref (G.2.2.2 64)] m Q := by
  refine CM.of dkX6_setOfSpots (Or.inl rfl) [some _, none, none] rfl (Nat.le_of_ble_eq_true rfl) ?_
  refine x_iconst (i := 0) (pc' := 1) rfl rfl ?_
  refine x_istore_n (L' := [some _, some _, none]) (i := 1) (pc' := 2) rfl rfl rfl rfl (by decide) rfl ?_
  refine x_iconst (i := 2) (pc' := 3) rfl rfl ?_
  refine x_istore_n (L' := [some _, some _, some _]) (i := 3) (pc' := 4) rfl rfl rfl rfl (by decide) rfl ?_
  skip
  refine up_ind1 (P := fun (j : Int) (x : Int) => BW G 2 mX6_setOfSpots Q 4 [some (.ref (G.2.2.2 64)), some (.int (J (x))), some (.int (J (j)))] [] m) (fun (j : Int) (x : Int) => io x (1 * 2 ^ (m 65 j).toNat)) (fun (j : Int) (x : Int) => 0 ≤ x) (m 64 1) (0) (0) (by omega) (by omega) (fun j x hj0 hj hi => io_nn _ _) (fun j x hj0 hj hi hk => ?_) (fun hi => ?_)
  · have q1 := hp j (by omega) (by omega)
    refine x_iload_n (i := 4) (pc' := 5) rfl rfl rfl rfl ?_
    refine x_aload_n (i := 5) (pc' := 6) rfl rfl rfl rfl ?_
    refine m_getf (i := 6) (pc' := 9) rfl rfl flX6_15 (sh64 G) rfl rfl ?_
    refine x_icmpge (i := 7) (pc' := 12) (tgt := 28) rfl rfl (by decide) ⟨by omega, by omega⟩ ⟨by omega, by omega⟩ (fun c1 => by exfalso; omega) (fun c1 => ?_)
    refine x_iload_n (i := 8) (pc' := 13) rfl rfl rfl rfl ?_
    refine x_iconst (i := 9) (pc' := 14) rfl rfl ?_
    refine x_aload_n (i := 10) (pc' := 15) rfl rfl rfl rfl ?_
    refine x_iload_n (i := 11) (pc' := 16) rfl rfl rfl rfl ?_
    refine m_callV (i := 12) (pc' := 19) (av := [_]) (rest := [_, _]) rfl rfl (by decide) lX6_41 (sh64 G) rfl rfl rfl rfl rfl (Nat.le_of_ble_eq_true rfl) (Nat.le_refl _) (Nat.le_refl _) (s_X6_spot (by omega) (by omega) ?_)
    dsimp only [psh]
    refine x_ishl (i := 13) (pc' := 20) rfl rfl (by first | omega | (exact Int.mul_nonneg (by omega) (Int.le_of_lt (Int.pow_pos (by omega))))) (by first | omega | (exact Int.mul_nonneg (by omega) (Int.le_of_lt (Int.pow_pos (by omega))))) ?_
    refine x_ior (i := 14) (pc' := 21) rfl rfl (by first | omega | (exact Int.mul_nonneg (by omega) (Int.le_of_lt (Int.pow_pos (by omega))))) (by first | omega | (exact Int.mul_nonneg (by omega) (Int.le_of_lt (Int.pow_pos (by omega))))) ?_
    refine x_istore_n (L' := [some _, some _, some _]) (i := 15) (pc' := 22) rfl rfl rfl rfl (by decide) rfl ?_
    refine x_iinc (L' := [some _, some _, some _]) (i := 16) (pc' := 25) rfl rfl rfl rfl (by decide) rfl ?_
    refine x_goto (i := 17) (pc' := 4) rfl (by decide) ?_
    (first | exact hk | (refine AW.le ?_ hk; simp [lvle]; done) | ((repeat' split at hk) <;> first | exact hk | (refine AW.le ?_ hk; simp [lvle]; done) | (exfalso; omega)))
  · skip
    refine x_iload_n (i := 4) (pc' := 5) rfl rfl rfl rfl ?_
    refine x_aload_n (i := 5) (pc' := 6) rfl rfl rfl rfl ?_
    refine m_getf (i := 6) (pc' := 9) rfl rfl flX6_15 (sh64 G) rfl rfl ?_
    refine x_icmpge (i := 7) (pc' := 12) (tgt := 28) rfl rfl (by decide) ⟨by omega, by omega⟩ ⟨by omega, by omega⟩ (fun c1 => ?_) (fun c1 => by exfalso; omega)
    refine x_iload_n (i := 18) (pc' := 29) rfl rfl rfl rfl ?_
    exact m_ireturn (i := 19) rfl rfl (by rw [Int.sub_zero]; exact hQ)
