def bcm (m : Mem) (a b c : Int) : Mem := stm m 77 (2 + 5 * a + b) c
def bcs (m : Mem) (a b c : Int) : Int := sgo (bcm m a b c) (bcm m a b c 77 (2 + 5 * a + 0)) (bcm m a b c 77 (2 + 5 * a + 1)) (bcm m a b c 77 (2 + 5 * a + 2)) (bcm m a b c 77 (2 + 5 * a + 3)) a (bcm m a b c 77 0).toNat 0
def bcd (m : Mem) (a b c : Int) : Prop := (0 ≤ a ∧ a < m 77 0) ∧ (0 ≤ b ∧ b ≤ 4) ∧ 0 ≤ c ∧ (c ≤ 3 ∨ (c ≤ 7 ∧ ¬ b = 4))
theorem bc_tail {G : GG} {m : Mem} {Q : Option Value → Mem → Prop} {a b c : Int} (h : GM m) (ra : rg a) (rb : rg b) (rc : rg c) (hb : bcd m a b c) (hQ1 : bcs m a b c = -1 → Q (some (.int (J (m 77 (2 + 5 * a + b))))) (stm (mdm m) 77 (2 + 5 * a + b) c)) (hQ2 : ¬ bcs m a b c = -1 → Q (some (.int (J (-3)))) (rfm m (-3))) : BW G 3 mX12_becomes Q 50 [some (.ref (G.2.2.2 76)), some (.int (J (a))), some (.int (J (b))), some (.int (J (c))), none, none] [] m := by
  obtain ⟨hM, ⟨hn, hc, hv, hst, hw, hwd, hpo⟩, hst5, hle, her⟩ := h
  have hn0 := hn.1; have hn1 := hn.2; have hc0 := hc.1; have hc1 := hc.2
  obtain ⟨b1, b2, b3⟩ := hb
  have e0 : bcm m a b c 77 0 = m 77 0 := stm_ix _ _ _ (by omega)
  have M1 : MR (bcm m a b c) := hM.st rc
  have N1 : NM (bcm m a b c) := (by unfold NM; rw [e0]; exact hn)
  have eb : stm (bcm m a b c) 77 (2 + 5 * a + b) (m 77 (2 + 5 * a + b)) = m := stm_back _ _ _ _
  have hrg := sgo_rg (bcm m a b c) (bcm m a b c 77 (2 + 5 * a + 0)) (bcm m a b c 77 (2 + 5 * a + 1)) (bcm m a b c 77 (2 + 5 * a + 2)) (bcm m a b c 77 (2 + 5 * a + 3)) a (bcm m a b c 77 0).toNat 0 (by omega)
  have hrs : rg (bcs m a b c) := (by unfold bcs; omega)
  refine x_aload_n (i := 25) (pc' := 51) rfl rfl rfl rfl ?_
  refine x_iload_n (i := 26) (pc' := 52) rfl rfl rfl rfl ?_
  refine x_iload_n (i := 27) (pc' := 53) rfl rfl rfl rfl ?_
  refine m_callV (i := 28) (pc' := 56) (av := [_, _]) (rest := []) rfl rfl (by decide) lX12_52 (sh76 G) rfl rfl rfl rfl rfl (Nat.le_of_ble_eq_true rfl) (Nat.le_refl _) (Nat.le_refl _) (s_X12_part (by omega) (by omega) ?_)
  dsimp only [psh]
  refine x_istore (L' := [some _, some _, some _, some _, some _, none]) (i := 29) (pc' := 58) rfl rfl rfl (by decide) rfl ?_
  refine x_aload_n (i := 30) (pc' := 59) rfl rfl rfl rfl ?_
  refine m_getf (i := 31) (pc' := 62) rfl rfl flX12_7 (sh76 G) rfl rfl ?_
  refine x_iconst (i := 32) (pc' := 63) rfl rfl ?_
  refine x_iconst (i := 33) (pc' := 64) rfl rfl ?_
  refine x_iload_n (i := 34) (pc' := 65) rfl rfl rfl rfl ?_
  refine x_imul (i := 35) (pc' := 66) rfl rfl ?_
  refine x_iadd (i := 36) (pc' := 67) rfl rfl ?_
  refine x_iload_n (i := 37) (pc' := 68) rfl rfl rfl rfl ?_
  refine x_iadd (i := 38) (pc' := 69) rfl rfl ?_
  refine x_iload_n (i := 39) (pc' := 70) rfl rfl rfl rfl ?_
  refine m_iast (i := 40) (pc' := 71) rfl rfl (sh77 G) (by decide) ⟨by omega, by omega⟩ ?_
  show BW G 3 mX12_becomes Q 71 _ _ (bcm m a b c)
  refine x_aload_n (i := 41) (pc' := 72) rfl rfl rfl rfl ?_
  refine x_aload_n (i := 42) (pc' := 73) rfl rfl rfl rfl ?_
  refine x_iload_n (i := 43) (pc' := 74) rfl rfl rfl rfl ?_
  refine x_iconst (i := 44) (pc' := 75) rfl rfl ?_
  refine m_callV (i := 45) (pc' := 78) (av := [_, _]) (rest := [_]) rfl rfl (by decide) lX12_52 (sh76 G) rfl rfl rfl rfl rfl (Nat.le_of_ble_eq_true rfl) (Nat.le_refl _) (Nat.le_refl _) (s_X12_part (by omega) (by omega) ?_)
  dsimp only [psh]
  refine x_aload_n (i := 46) (pc' := 79) rfl rfl rfl rfl ?_
  refine x_iload_n (i := 47) (pc' := 80) rfl rfl rfl rfl ?_
  refine x_iconst (i := 48) (pc' := 81) rfl rfl ?_
  refine m_callV (i := 49) (pc' := 84) (av := [_, _]) (rest := [_, _]) rfl rfl (by decide) lX12_52 (sh76 G) rfl rfl rfl rfl rfl (Nat.le_of_ble_eq_true rfl) (Nat.le_refl _) (Nat.le_refl _) (s_X12_part (by omega) (by omega) ?_)
  dsimp only [psh]
  refine x_aload_n (i := 50) (pc' := 85) rfl rfl rfl rfl ?_
  refine x_iload_n (i := 51) (pc' := 86) rfl rfl rfl rfl ?_
  refine x_iconst (i := 52) (pc' := 87) rfl rfl ?_
  refine m_callV (i := 53) (pc' := 90) (av := [_, _]) (rest := [_, _, _]) rfl rfl (by decide) lX12_52 (sh76 G) rfl rfl rfl rfl rfl (Nat.le_of_ble_eq_true rfl) (Nat.le_refl _) (Nat.le_refl _) (s_X12_part (by omega) (by omega) ?_)
  dsimp only [psh]
  refine x_aload_n (i := 54) (pc' := 91) rfl rfl rfl rfl ?_
  refine x_iload_n (i := 55) (pc' := 92) rfl rfl rfl rfl ?_
  refine x_iconst (i := 56) (pc' := 93) rfl rfl ?_
  refine m_callV (i := 57) (pc' := 96) (av := [_, _]) (rest := [_, _, _, _]) rfl rfl (by decide) lX12_52 (sh76 G) rfl rfl rfl rfl rfl (Nat.le_of_ble_eq_true rfl) (Nat.le_refl _) (Nat.le_refl _) (s_X12_part (by omega) (by omega) ?_)
  dsimp only [psh]
  refine x_iload_n (i := 58) (pc' := 97) rfl rfl rfl rfl ?_
  refine m_callV (i := 59) (pc' := 100) (av := [_, _, _, _, _]) (rest := []) rfl rfl (by decide) lX12_62 (sh76 G) rfl rfl rfl rfl rfl (Nat.le_of_ble_eq_true rfl) (Nat.le_refl _) (Nat.le_refl _) (s_X12_signOf M1 N1 (M1 _ _) (M1 _ _) (M1 _ _) (M1 _ _) ra ?_)
  dsimp only [psh]
  show BW G 3 mX12_becomes Q 100 _ [.int (J (bcs m a b c))] (bcm m a b c)
  refine x_iconst (i := 60) (pc' := 101) rfl rfl ?_
  refine x_icmpne (i := 61) (pc' := 104) (tgt := 108) rfl rfl (by decide) ⟨by omega, by omega⟩ ⟨by omega, by omega⟩ (fun c1 => ?_) (fun c1 => ?_)
  · first | (exfalso; omega; done) | skip
    all_goals (
      refine x_iconst (i := 64) (pc' := 109) rfl rfl ?_
      refine x_istore (L' := [some _, some _, some _, some _, some _, some _]) (i := 65) (pc' := 111) rfl rfl rfl (by decide) rfl ?_
      refine x_aload_n (i := 66) (pc' := 112) rfl rfl rfl rfl ?_
      refine m_getf (i := 67) (pc' := 115) rfl rfl flX12_7 (sh76 G) rfl rfl ?_
      refine x_iconst (i := 68) (pc' := 116) rfl rfl ?_
      refine x_iconst (i := 69) (pc' := 117) rfl rfl ?_
      refine x_iload_n (i := 70) (pc' := 118) rfl rfl rfl rfl ?_
      refine x_imul (i := 71) (pc' := 119) rfl rfl ?_
      refine x_iadd (i := 72) (pc' := 120) rfl rfl ?_
      refine x_iload_n (i := 73) (pc' := 121) rfl rfl rfl rfl ?_
      refine x_iadd (i := 74) (pc' := 122) rfl rfl ?_
      refine x_iload (i := 75) (pc' := 124) rfl rfl rfl ?_
      refine m_iast (i := 76) (pc' := 125) rfl rfl (sh77 G) (by decide) ⟨by omega, by omega⟩ ?_
      rw [eb]
      refine x_iload (i := 77) (pc' := 127) rfl rfl rfl ?_
      refine x_ifne (i := 78) (pc' := 130) (tgt := 137) rfl rfl (by decide) ⟨by omega, by omega⟩ (fun c2 => ?_) (fun c2 => ?_)
      · first | (exfalso; omega; done) | skip
        all_goals (
          refine x_aload_n (i := 83) (pc' := 138) rfl rfl rfl rfl ?_
          refine m_callV (i := 84) (pc' := 141) (av := []) (rest := []) rfl rfl (by decide) lX12_73 (sh76 G) rfl rfl rfl rfl rfl (Nat.le_of_ble_eq_true rfl) (Nat.le_refl _) (Nat.le_refl _) (s_X12_minds hst5 ?_)
          dsimp only [psh]
          skip
          skip
          skip
          generalize mdm m = y at hQ1 ⊢
          refine x_aload_n (i := 85) (pc' := 142) rfl rfl rfl rfl ?_
          refine m_getf (i := 86) (pc' := 145) rfl rfl flX12_7 (sh76 G) rfl rfl ?_
          refine x_iconst (i := 87) (pc' := 146) rfl rfl ?_
          refine x_iconst (i := 88) (pc' := 147) rfl rfl ?_
          refine x_iload_n (i := 89) (pc' := 148) rfl rfl rfl rfl ?_
          refine x_imul (i := 90) (pc' := 149) rfl rfl ?_
          refine x_iadd (i := 91) (pc' := 150) rfl rfl ?_
          refine x_iload_n (i := 92) (pc' := 151) rfl rfl rfl rfl ?_
          refine x_iadd (i := 93) (pc' := 152) rfl rfl ?_
          refine x_iload_n (i := 94) (pc' := 153) rfl rfl rfl rfl ?_
          refine m_iast (i := 95) (pc' := 154) rfl rfl (sh77 G) (by decide) ⟨by omega, by omega⟩ ?_
          refine x_iload (i := 96) (pc' := 156) rfl rfl rfl ?_
          exact m_ireturn (i := 97) rfl rfl (by first | exact hQ2 (by assumption) | exact hQ1 (by assumption))
          skip)
      · first | (exfalso; omega; done) | skip
        all_goals (
          refine x_aload_n (i := 79) (pc' := 131) rfl rfl rfl rfl ?_
          refine x_bipush (i := 80) (pc' := 133) rfl rfl (by decide) ?_
          refine m_callV (i := 81) (pc' := 136) (av := [_]) (rest := []) rfl rfl (by decide) lX12_69 (sh76 G) rfl rfl rfl rfl rfl (Nat.le_of_ble_eq_true rfl) (Nat.le_refl _) (Nat.le_refl _) (s_X12_refuses (by omega) ?_)
          dsimp only [psh]
          exact m_ireturn (i := 82) rfl rfl (by first | exact hQ2 (by assumption) | exact hQ1 (by assumption))
          skip)
      skip)
  · first | (exfalso; omega; done) | skip
    all_goals (
      refine x_iconst (i := 62) (pc' := 105) rfl rfl ?_
      refine x_goto (i := 63) (pc' := 109) rfl (by decide) ?_
      refine x_istore (L' := [some _, some _, some _, some _, some _, some _]) (i := 65) (pc' := 111) rfl rfl rfl (by decide) rfl ?_
      refine x_aload_n (i := 66) (pc' := 112) rfl rfl rfl rfl ?_
      refine m_getf (i := 67) (pc' := 115) rfl rfl flX12_7 (sh76 G) rfl rfl ?_
      refine x_iconst (i := 68) (pc' := 116) rfl rfl ?_
      refine x_iconst (i := 69) (pc' := 117) rfl rfl ?_
      refine x_iload_n (i := 70) (pc' := 118) rfl rfl rfl rfl ?_
      refine x_imul (i := 71) (pc' := 119) rfl rfl ?_
      refine x_iadd (i := 72) (pc' := 120) rfl rfl ?_
      refine x_iload_n (i := 73) (pc' := 121) rfl rfl rfl rfl ?_
      refine x_iadd (i := 74) (pc' := 122) rfl rfl ?_
      refine x_iload (i := 75) (pc' := 124) rfl rfl rfl ?_
      refine m_iast (i := 76) (pc' := 125) rfl rfl (sh77 G) (by decide) ⟨by omega, by omega⟩ ?_
      rw [eb]
      refine x_iload (i := 77) (pc' := 127) rfl rfl rfl ?_
      refine x_ifne (i := 78) (pc' := 130) (tgt := 137) rfl rfl (by decide) ⟨by omega, by omega⟩ (fun c3 => ?_) (fun c3 => ?_)
      · first | (exfalso; omega; done) | skip
        all_goals (
          refine x_aload_n (i := 83) (pc' := 138) rfl rfl rfl rfl ?_
          refine m_callV (i := 84) (pc' := 141) (av := []) (rest := []) rfl rfl (by decide) lX12_73 (sh76 G) rfl rfl rfl rfl rfl (Nat.le_of_ble_eq_true rfl) (Nat.le_refl _) (Nat.le_refl _) (s_X12_minds hst5 ?_)
          dsimp only [psh]
          skip
          skip
          skip
          generalize mdm m = y at hQ1 ⊢
          refine x_aload_n (i := 85) (pc' := 142) rfl rfl rfl rfl ?_
          refine m_getf (i := 86) (pc' := 145) rfl rfl flX12_7 (sh76 G) rfl rfl ?_
          refine x_iconst (i := 87) (pc' := 146) rfl rfl ?_
          refine x_iconst (i := 88) (pc' := 147) rfl rfl ?_
          refine x_iload_n (i := 89) (pc' := 148) rfl rfl rfl rfl ?_
          refine x_imul (i := 90) (pc' := 149) rfl rfl ?_
          refine x_iadd (i := 91) (pc' := 150) rfl rfl ?_
          refine x_iload_n (i := 92) (pc' := 151) rfl rfl rfl rfl ?_
          refine x_iadd (i := 93) (pc' := 152) rfl rfl ?_
          refine x_iload_n (i := 94) (pc' := 153) rfl rfl rfl rfl ?_
          refine m_iast (i := 95) (pc' := 154) rfl rfl (sh77 G) (by decide) ⟨by omega, by omega⟩ ?_
          refine x_iload (i := 96) (pc' := 156) rfl rfl rfl ?_
          exact m_ireturn (i := 97) rfl rfl (by first | exact hQ2 (by assumption) | exact hQ1 (by assumption))
          skip)
      · first | (exfalso; omega; done) | skip
        all_goals (
          refine x_aload_n (i := 79) (pc' := 131) rfl rfl rfl rfl ?_
          refine x_bipush (i := 80) (pc' := 133) rfl rfl (by decide) ?_
          refine m_callV (i := 81) (pc' := 136) (av := [_]) (rest := []) rfl rfl (by decide) lX12_69 (sh76 G) rfl rfl rfl rfl rfl (Nat.le_of_ble_eq_true rfl) (Nat.le_refl _) (Nat.le_refl _) (s_X12_refuses (by omega) ?_)
          dsimp only [psh]
          exact m_ireturn (i := 82) rfl rfl (by first | exact hQ2 (by assumption) | exact hQ1 (by assumption))
          skip)
      skip)
theorem s_X12_becomes {G : GG} {m : Mem} {Q : Option Value → Mem → Prop} {a b c : Int} (h : GM m) (ra : rg a) (rb : rg b) (rc : rg c) (hQ0 : ¬ bcd m a b c → Q (some (.int (J (-2)))) (rfm m (-2))) (hQ1 : bcd m a b c → bcs m a b c = -1 → Q (some (.int (J (m 77 (2 + 5 * a + b))))) (stm (mdm m) 77 (2 + 5 * a + b) c)) (hQ2 : bcd m a b c → ¬ bcs m a b c = -1 → Q (some (.int (J (-3)))) (rfm m (-3)))  : CM G 3 mX12_becomes [.ref (G.2.2.2 76), .int (J (a)), .int (J (b)), .int (J (c))] m Q := by
  refine CM.of dkX12_becomes (Or.inl rfl) [some _, some _, some _, some _, none, none] rfl (Nat.le_of_ble_eq_true rfl) ?_
  obtain ⟨hM, ⟨hn, hc, hv, hst, hw, hwd, hpo⟩, hst5, hle, her⟩ := id h
  refine x_aload_n (i := 0) (pc' := 1) rfl rfl rfl rfl ?_
  refine x_iload_n (i := 1) (pc' := 2) rfl rfl rfl rfl ?_
  refine m_callV (i := 2) (pc' := 5) (av := [_]) (rest := []) rfl rfl (by decide) lX12_79 (sh76 G) rfl rfl rfl rfl rfl (Nat.le_of_ble_eq_true rfl) (Nat.le_refl _) (Nat.le_refl _) (s_X12_isSign hn ra ?_)
  dsimp only [psh]
  refine x_ifeq (i := 3) (pc' := 8) (tgt := 43) rfl rfl (by decide) (by (repeat' split at *) <;> omega) (fun c1 => ?_) (fun c1 => ?_)
  · skip
    refine x_aload_n (i := 21) (pc' := 44) rfl rfl rfl rfl ?_
    refine x_bipush (i := 22) (pc' := 46) rfl rfl (by decide) ?_
    refine m_callV (i := 23) (pc' := 49) (av := [_]) (rest := []) rfl rfl (by decide) lX12_69 (sh76 G) rfl rfl rfl rfl rfl (Nat.le_of_ble_eq_true rfl) (Nat.le_refl _) (Nat.le_refl _) (s_X12_refuses (by omega) ?_)
    dsimp only [psh]
    exact m_ireturn (i := 24) rfl rfl (hQ0 (by unfold bcd; (repeat' split at *) <;> omega))
  · skip
    refine x_iload_n (i := 4) (pc' := 9) rfl rfl rfl rfl ?_
    refine x_i2l (i := 5) (pc' := 10) rfl rfl (by (repeat' split at *) <;> omega) ?_
    refine x_lconst (a := 0) (i := 6) (pc' := 11) rfl rfl rfl ?_
    refine x_ldc2 (i := 7) (pc' := 14) rfl rfl kX12_82 ?_
    refine m_callS (i := 8) (pc' := 17) (av := [_, _, _]) (rest := []) rfl rfl (by decide) lX12_42 rfl rfl (Nat.le_of_ble_eq_true rfl) (Nat.le_refl _) (Nat.le_refl _) (s_X12_in (by omega) (by omega) (by omega) ?_)
    dsimp only [psh]
    refine x_ifeq (i := 9) (pc' := 20) (tgt := 43) rfl rfl (by decide) (by (repeat' split at *) <;> omega) (fun c2 => ?_) (fun c2 => ?_)
    · skip
      refine x_aload_n (i := 21) (pc' := 44) rfl rfl rfl rfl ?_
      refine x_bipush (i := 22) (pc' := 46) rfl rfl (by decide) ?_
      refine m_callV (i := 23) (pc' := 49) (av := [_]) (rest := []) rfl rfl (by decide) lX12_69 (sh76 G) rfl rfl rfl rfl rfl (Nat.le_of_ble_eq_true rfl) (Nat.le_refl _) (Nat.le_refl _) (s_X12_refuses (by omega) ?_)
      dsimp only [psh]
      exact m_ireturn (i := 24) rfl rfl (hQ0 (by unfold bcd; (repeat' split at *) <;> omega))
    · skip
      refine x_iload_n (i := 10) (pc' := 21) rfl rfl rfl rfl ?_
      refine x_i2l (i := 11) (pc' := 22) rfl rfl (by (repeat' split at *) <;> omega) ?_
      refine x_lconst (a := 0) (i := 12) (pc' := 23) rfl rfl rfl ?_
      refine x_iload_n (i := 13) (pc' := 24) rfl rfl rfl rfl ?_
      refine x_iconst (i := 14) (pc' := 25) rfl rfl ?_
      refine x_icmpne (i := 15) (pc' := 28) (tgt := 34) rfl rfl (by decide) (by (repeat' split at *) <;> omega) (by (repeat' split at *) <;> omega) (fun c3 => ?_) (fun c3 => ?_)
      · skip
        refine x_ldc2 (i := 18) (pc' := 37) rfl rfl kX12_46 ?_
        refine m_callS (i := 19) (pc' := 40) (av := [_, _, _]) (rest := []) rfl rfl (by decide) lX12_42 rfl rfl (Nat.le_of_ble_eq_true rfl) (Nat.le_refl _) (Nat.le_refl _) (s_X12_in (by omega) (by omega) (by omega) ?_)
        dsimp only [psh]
        refine x_ifne (i := 20) (pc' := 43) (tgt := 50) rfl rfl (by decide) (by (repeat' split at *) <;> omega) (fun c4 => ?_) (fun c4 => ?_)
        · skip
          have hb : bcd m a b c := (by unfold bcd; (repeat' split at *) <;> omega)
          exact bc_tail h ra rb rc hb (hQ1 hb) (hQ2 hb)
        · skip
          refine x_aload_n (i := 21) (pc' := 44) rfl rfl rfl rfl ?_
          refine x_bipush (i := 22) (pc' := 46) rfl rfl (by decide) ?_
          refine m_callV (i := 23) (pc' := 49) (av := [_]) (rest := []) rfl rfl (by decide) lX12_69 (sh76 G) rfl rfl rfl rfl rfl (Nat.le_of_ble_eq_true rfl) (Nat.le_refl _) (Nat.le_refl _) (s_X12_refuses (by omega) ?_)
          dsimp only [psh]
          exact m_ireturn (i := 24) rfl rfl (hQ0 (by unfold bcd; (repeat' split at *) <;> omega))
      · skip
        refine x_ldc2 (i := 16) (pc' := 31) rfl rfl kX12_60 ?_
        refine x_goto (i := 17) (pc' := 37) rfl (by decide) ?_
        refine m_callS (i := 19) (pc' := 40) (av := [_, _, _]) (rest := []) rfl rfl (by decide) lX12_42 rfl rfl (Nat.le_of_ble_eq_true rfl) (Nat.le_refl _) (Nat.le_refl _) (s_X12_in (by omega) (by omega) (by omega) ?_)
        dsimp only [psh]
        refine x_ifne (i := 20) (pc' := 43) (tgt := 50) rfl rfl (by decide) (by (repeat' split at *) <;> omega) (fun c5 => ?_) (fun c5 => ?_)
        · skip
          have hb : bcd m a b c := (by unfold bcd; (repeat' split at *) <;> omega)
          exact bc_tail h ra rb rc hb (hQ1 hb) (hQ2 hb)
        · skip
          refine x_aload_n (i := 21) (pc' := 44) rfl rfl rfl rfl ?_
          refine x_bipush (i := 22) (pc' := 46) rfl rfl (by decide) ?_
          refine m_callV (i := 23) (pc' := 49) (av := [_]) (rest := []) rfl rfl (by decide) lX12_69 (sh76 G) rfl rfl rfl rfl rfl (Nat.le_of_ble_eq_true rfl) (Nat.le_refl _) (Nat.le_refl _) (s_X12_refuses (by omega) ?_)
          dsimp only [psh]
          exact m_ireturn (i := 24) rfl rfl (hQ0 (by unfold bcd; (repeat' split at *) <;> omega))
def TM (m : Mem) : Prop := MR m ∧ (0 ≤ m 76 4 ∧ m 76 4 ≤ 120) ∧ (0 ≤ m 76 8 ∧ m 76 8 ≤ m 76 4)
def bh (m : Mem) : Int := if m 76 8 < m 76 4 then m 79 (m 76 8) else -1
theorem bh_rg {m : Mem} (h : MR m) : rg (bh m) := by
  unfold bh
  split
  · exact h _ _
  · decide
def blk (m : Mem) : Mem := stm m 76 8 (skp (m 79) (m 76 4) (m 76 4 - m 76 8).toNat (m 76 8))
def lst (c : Int) : Int := if c = 99 then 0 else if c = 100 then 1 else if c = 103 then 2 else if c = 108 then 6 else if c = 115 then 5 else if c = 119 then 1 else -1
theorem s_X12_byteHere {G : GG} {m : Mem} {Q : Option Value → Mem → Prop} (h : TM m) (hQ : Q (some (.int (J (bh m)))) m) : CM G 0 mX12_byteHere [.ref (G.2.2.2 76)] m Q := by
  refine CM.of dkX12_byteHere (Or.inl rfl) [some _] rfl (Nat.le_of_ble_eq_true rfl) ?_
  obtain ⟨hM, h2, h3⟩ := h
  refine x_aload_n (i := 0) (pc' := 1) rfl rfl rfl rfl ?_
  refine m_getf (i := 1) (pc' := 4) rfl rfl flX12_254 (sh76 G) rfl rfl ?_
  refine x_aload_n (i := 2) (pc' := 5) rfl rfl rfl rfl ?_
  refine m_getf (i := 3) (pc' := 8) rfl rfl flX12_251 (sh76 G) rfl rfl ?_
  refine x_icmpge (i := 4) (pc' := 11) (tgt := 23) rfl rfl (by decide) ⟨by omega, by omega⟩ ⟨by omega, by omega⟩ (fun c1 => ?_) (fun c1 => ?_)
  · skip
    refine x_iconst (i := 11) (pc' := 24) rfl rfl ?_
    exact m_ireturn (i := 12) rfl rfl (by unfold bh at hQ; (repeat' split at hQ) <;> first | exact hQ | (exfalso; omega))
  · skip
    refine x_aload_n (i := 5) (pc' := 12) rfl rfl rfl rfl ?_
    refine m_getf (i := 6) (pc' := 15) rfl rfl flX12_16 (sh76 G) rfl rfl ?_
    refine x_aload_n (i := 7) (pc' := 16) rfl rfl rfl rfl ?_
    refine m_getf (i := 8) (pc' := 19) rfl rfl flX12_254 (sh76 G) rfl rfl ?_
    refine m_iald (i := 9) (pc' := 20) rfl rfl (sh79 G) (by decide) ⟨by omega, by omega⟩ ?_
    refine x_goto (i := 10) (pc' := 24) rfl (by decide) ?_
    exact m_ireturn (i := 12) rfl rfl (by unfold bh at hQ; (repeat' split at hQ) <;> first | exact hQ | (exfalso; omega))
theorem s_X12_isFigure {G : GG} {m : Mem} {Q : Option Value → Mem → Prop} (h : TM m) (hQ : Q (some (.int (J (if 48 ≤ bh m ∧ bh m ≤ 57 then 1 else 0)))) m) : CM G 1 mX12_isFigure [.ref (G.2.2.2 76)] m Q := by
  refine CM.of dkX12_isFigure (Or.inl rfl) [some _] rfl (Nat.le_of_ble_eq_true rfl) ?_
  have hb := bh_rg h.1
  refine x_aload_n (i := 0) (pc' := 1) rfl rfl rfl rfl ?_
  refine m_callV (i := 1) (pc' := 4) (av := []) (rest := []) rfl rfl (by decide) lX12_257 (sh76 G) rfl rfl rfl rfl rfl (Nat.le_of_ble_eq_true rfl) (Nat.le_refl _) (Nat.le_refl _) (s_X12_byteHere h ?_)
  dsimp only [psh]
  refine x_i2l (i := 2) (pc' := 5) rfl rfl (by omega) ?_
  refine x_ldc2 (i := 3) (pc' := 8) rfl rfl kX12_260 ?_
  refine x_ldc2 (i := 4) (pc' := 11) rfl rfl kX12_262 ?_
  refine m_callS (i := 5) (pc' := 14) (av := [_, _, _]) (rest := []) rfl rfl (by decide) lX12_42 rfl rfl (Nat.le_of_ble_eq_true rfl) (Nat.le_refl _) (Nat.le_refl _) (s_X12_in (by omega) (by omega) (by omega) ?_)
  dsimp only [psh]
  exact m_zreturn (i := 6) rfl rfl (by (repeat' split) <;> omega) (hQ)
theorem s_X12_least {G : GG} {m : Mem} {Q : Option Value → Mem → Prop} {a : Int} (ha : rg a) (hQ : Q (some (.int (J (lst a)))) m) : CM G 0 mX12_least [.int (J (a))] m Q := by
  refine CM.of dkX12_least (Or.inl rfl) [some _] rfl (Nat.le_of_ble_eq_true rfl) ?_
  refine x_iload_n (i := 0) (pc' := 1) rfl rfl rfl rfl ?_
  rcases (by omega : a = 99 ∨ a = 100 ∨ a = 103 ∨ a = 108 ∨ a = 115 ∨ a = 119 ∨ (¬ a = 99 ∧ ¬ a = 100 ∧ ¬ a = 103 ∧ ¬ a = 108 ∧ ¬ a = 115 ∧ ¬ a = 119)) with c1 | c1 | c1 | c1 | c1 | c1 | c1
  · first | (exfalso; omega; done) | skip
    all_goals (
      refine x_look (i := 1) (off := 70) (tgt := 71) rfl (by decide) ⟨by omega, by omega⟩ (by rw [c1]; rfl) (by decide) ?_
      refine x_iconst (i := 12) (pc' := 72) rfl rfl ?_
      exact m_ireturn (i := 13) rfl rfl (by unfold lst at hQ; (repeat' split at hQ) <;> first | exact hQ | (exfalso; omega))
      skip)
  · first | (exfalso; omega; done) | skip
    all_goals (
      refine x_look (i := 1) (off := 68) (tgt := 69) rfl (by decide) ⟨by omega, by omega⟩ (by rw [c1]; rfl) (by decide) ?_
      refine x_iconst (i := 10) (pc' := 70) rfl rfl ?_
      exact m_ireturn (i := 11) rfl rfl (by unfold lst at hQ; (repeat' split at hQ) <;> first | exact hQ | (exfalso; omega))
      skip)
  · first | (exfalso; omega; done) | skip
    all_goals (
      refine x_look (i := 1) (off := 63) (tgt := 64) rfl (by decide) ⟨by omega, by omega⟩ (by rw [c1]; rfl) (by decide) ?_
      refine x_iconst (i := 6) (pc' := 65) rfl rfl ?_
      exact m_ireturn (i := 7) rfl rfl (by unfold lst at hQ; (repeat' split at hQ) <;> first | exact hQ | (exfalso; omega))
      skip)
  · first | (exfalso; omega; done) | skip
    all_goals (
      refine x_look (i := 1) (off := 65) (tgt := 66) rfl (by decide) ⟨by omega, by omega⟩ (by rw [c1]; rfl) (by decide) ?_
      refine x_bipush (i := 8) (pc' := 68) rfl rfl (by decide) ?_
      exact m_ireturn (i := 9) rfl rfl (by unfold lst at hQ; (repeat' split at hQ) <;> first | exact hQ | (exfalso; omega))
      skip)
  · first | (exfalso; omega; done) | skip
    all_goals (
      refine x_look (i := 1) (off := 59) (tgt := 60) rfl (by decide) ⟨by omega, by omega⟩ (by rw [c1]; rfl) (by decide) ?_
      refine x_iconst (i := 2) (pc' := 61) rfl rfl ?_
      exact m_ireturn (i := 3) rfl rfl (by unfold lst at hQ; (repeat' split at hQ) <;> first | exact hQ | (exfalso; omega))
      skip)
  · first | (exfalso; omega; done) | skip
    all_goals (
      refine x_look (i := 1) (off := 61) (tgt := 62) rfl (by decide) ⟨by omega, by omega⟩ (by rw [c1]; rfl) (by decide) ?_
      refine x_iconst (i := 4) (pc' := 63) rfl rfl ?_
      exact m_ireturn (i := 5) rfl rfl (by unfold lst at hQ; (repeat' split at hQ) <;> first | exact hQ | (exfalso; omega))
      skip)
  · first | (exfalso; omega; done) | skip
    all_goals (
      refine x_look (i := 1) (off := 72) (tgt := 73) rfl (by decide) ⟨by omega, by omega⟩ (by simp [Op.lookupswitch.offset]; (repeat' split) <;> omega) (by decide) ?_
      refine x_iconst (i := 14) (pc' := 74) rfl rfl ?_
      exact m_ireturn (i := 15) rfl rfl (by unfold lst at hQ; (repeat' split at hQ) <;> first | exact hQ | (exfalso; omega))
      skip)
theorem TM.mv {m : Mem} (h : TM m) {p : Int} (hp : 0 ≤ p ∧ p ≤ m 76 4) : TM (stm m 76 8 p) := by
  obtain ⟨h1, h2, h3⟩ := h
  have e1 : stm m 76 8 p 76 4 = m 76 4 := stm_ix _ _ _ (by decide)
  refine ⟨h1.st (by omega), by rw [e1]; exact h2, by rw [stm_eq, e1]; exact hp⟩
theorem TM.sk {m : Mem} (h : TM m) : TM (blk m) := by
  have := skp_le (m 79) (m 76 4) (m 76 4 - m 76 8).toNat (m 76 8) (by have := h.2.2; omega)
  exact h.mv (by have := h.2.2; omega)
theorem s_X12_blanks {G : GG} {m : Mem} {Q : Option Value → Mem → Prop} (h : TM m) (hQ : Q none (blk m)) : CM G 1 mX12_blanks [.ref (G.2.2.2 76)] m Q := by
  refine CM.of dkX12_blanks (Or.inl rfl) [some _] rfl (Nat.le_of_ble_eq_true rfl) ?_
  suffices H : ∀ (k : Nat) (q : Int), q + k = m 76 4 → 0 ≤ q → Q none (stm m 76 8 (skp (m 79) (m 76 4) k q)) → BW G 1 mX12_blanks Q 0 [some (.ref (G.2.2.2 76))] [] (stm m 76 8 q) by
    have h9 := H (m 76 4 - m 76 8).toNat (m 76 8) (by have := h.2.2; omega) h.2.2.1 hQ
    rw [stm_self] at h9
    exact h9
  have hln := h.2.1
  intro k
  induction k with
  | zero =>
    intro q hq h0 hQ
    unfold skp at hQ
    have t1 := h.mv (p := q) (by omega)
    have e2 : bh (stm m 76 8 q) = -1 := (by unfold bh; rw [stm_eq, stm_ix _ _ _ (by decide), if_neg (by omega)])
    refine x_aload_n (i := 0) (pc' := 1) rfl rfl rfl rfl ?_
    refine m_callV (i := 1) (pc' := 4) (av := []) (rest := []) rfl rfl (by decide) lX12_257 (sh76 G) rfl rfl rfl rfl rfl (Nat.le_of_ble_eq_true rfl) (Nat.le_refl _) (Nat.le_refl _) (s_X12_byteHere t1 ?_)
    dsimp only [psh]
    rw [e2]
    refine x_bipush (i := 2) (pc' := 6) rfl rfl (by decide) ?_
    refine x_icmpne (i := 3) (pc' := 9) (tgt := 22) rfl rfl (by decide) ⟨by omega, by omega⟩ ⟨by omega, by omega⟩ (fun c1 => ?_) (fun c1 => by exfalso; omega)
    exact m_return (i := 11) rfl rfl (hQ)
  | succ k ih =>
    intro q hq h0 hQ
    have t1 := h.mv (p := q) (by omega)
    have e1 : stm m 76 8 q 76 8 = q := stm_eq _ _ _ _
    have e2 : bh (stm m 76 8 q) = m 79 q := (by unfold bh; rw [stm_eq, stm_ix _ _ _ (by decide), if_pos (by omega)]; rfl)
    have hr := h.1 79 q
    refine x_aload_n (i := 0) (pc' := 1) rfl rfl rfl rfl ?_
    refine m_callV (i := 1) (pc' := 4) (av := []) (rest := []) rfl rfl (by decide) lX12_257 (sh76 G) rfl rfl rfl rfl rfl (Nat.le_of_ble_eq_true rfl) (Nat.le_refl _) (Nat.le_refl _) (s_X12_byteHere t1 ?_)
    dsimp only [psh]
    rw [e2]
    refine x_bipush (i := 2) (pc' := 6) rfl rfl (by decide) ?_
    refine x_icmpne (i := 3) (pc' := 9) (tgt := 22) rfl rfl (by decide) ⟨by omega, by omega⟩ ⟨by omega, by omega⟩ (fun c1 => ?_) (fun c1 => ?_)
    · skip
      exact m_return (i := 11) rfl rfl (by unfold skp at hQ; rw [if_neg (by omega)] at hQ; exact hQ)
    · skip
      refine x_aload_n (i := 4) (pc' := 10) rfl rfl rfl rfl ?_
      refine x_dup (i := 5) (pc' := 11) rfl rfl rfl ?_
      refine m_getf (i := 6) (pc' := 14) rfl rfl flX12_254 (sh76 G) rfl rfl ?_
      rw [e1]
      refine x_iconst (i := 7) (pc' := 15) rfl rfl ?_
      refine x_iadd (i := 8) (pc' := 16) rfl rfl ?_
      refine m_putf (kz := 8) (i := 9) (pc' := 19) rfl rfl flX12_254 (sh76 G) (fun _ => rfl) rfl (Nat.le_of_ble_eq_true rfl) rfl rfl ?_
      refine x_goto (i := 10) (pc' := 0) rfl (by decide) ?_
      rw [stm_stm]
      unfold skp at hQ
      rw [if_pos (by omega)] at hQ
      exact ih (q + 1) (by omega) (by omega) hQ
