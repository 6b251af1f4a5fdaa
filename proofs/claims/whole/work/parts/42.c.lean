def gpm (w a b : Int) : Int := if w = 0 then ons (ix a b) else if w = 1 then ab (a % 4 - b % 4) + ab (a / 4 - b / 4) else if w = 2 then (if 4 < ab (a - b) then 8 - ab (a - b) else ab (a - b)) else fg a b
theorem ons_pop : ∀ z : Nat, z < 16 → ons (z : Int) = pop (z : Int) := by decide +kernel
theorem gpm_gp {w a b : Int} (ha : 0 ≤ a ∧ a ≤ 7) (hb : 0 ≤ b ∧ b ≤ 7) : gpm w a b = gp w a b := by
  have hx := ix_le ha hb
  have h1 := ons_pop (ix a b).toNat (by omega)
  rw [Int.toNat_of_nonneg hx.1] at h1
  unfold gpm gp mn
  rw [h1]
  have h2 := ab_le (x := a - b) (n := 7) (by omega)
  (repeat' split) <;> first | rfl | omega
def PV (m : Mem) (j : Int) : Prop := ∀ w, 0 ≤ w → w ≤ 3 → 0 ≤ m 77 (2 + 5 * j + w) ∧ m 77 (2 + 5 * j + w) ≤ 7
def PVs (m : Mem) : Prop := ∀ k, 0 ≤ k → k < m 77 0 → PV m k
def WTm (m : Mem) : Prop := ∀ w, 0 ≤ w → w ≤ 3 → 0 ≤ m 77 (130 + w) ∧ m 77 (130 + w) ≤ 5
def ao (m : Mem) (j h p q f : Int) : Int := m 77 130 * gp 0 (m 77 (2 + 5 * j + 0)) h + m 77 131 * gp 1 (m 77 (2 + 5 * j + 1)) p + m 77 132 * gp 2 (m 77 (2 + 5 * j + 2)) q + m 77 133 * gp 3 (m 77 (2 + 5 * j + 3)) f
def btw (m : Mem) (j k : Int) : Int := ao m j (m 77 (2 + 5 * k + 0)) (m 77 (2 + 5 * k + 1)) (m 77 (2 + 5 * k + 2)) (m 77 (2 + 5 * k + 3))
theorem ao_le {m : Mem} {j h p q f : Int} (hj : PV m j) (hw : WTm m) (h1 : 0 ≤ h ∧ h ≤ 7) (h2 : 0 ≤ p ∧ p ≤ 7) (h3 : 0 ≤ q ∧ q ≤ 7) (h4 : 0 ≤ f ∧ f ≤ 7) : 0 ≤ ao m j h p q f ∧ ao m j h p q f ≤ 160 := by
  have k0 := mul_le (hw 0 (by omega) (by omega)) (gp_le (p := 0) (hj 0 (by omega) (by omega)) h1)
  have k1 := mul_le (hw 1 (by omega) (by omega)) (gp_le (p := 1) (hj 1 (by omega) (by omega)) h2)
  have k2 := mul_le (hw 2 (by omega) (by omega)) (gp_le (p := 2) (hj 2 (by omega) (by omega)) h3)
  have k3 := mul_le (hw 3 (by omega) (by omega)) (gp_le (p := 3) (hj 3 (by omega) (by omega)) h4)
  have e0 : (130 : Int) + 0 = 130 := rfl
  have e1 : (130 : Int) + 1 = 131 := rfl
  have e2 : (130 : Int) + 2 = 132 := rfl
  have e3 : (130 : Int) + 3 = 133 := rfl
  rw [e0] at k0; rw [e1] at k1; rw [e2] at k2; rw [e3] at k3
  unfold ao
  omega
theorem btw_le {m : Mem} {j k : Int} (hj : PV m j) (hk : PV m k) (hw : WTm m) : 0 ≤ btw m j k ∧ btw m j k ≤ 160 := ao_le hj hw (hk 0 (by omega) (by omega)) (hk 1 (by omega) (by omega)) (hk 2 (by omega) (by omega)) (hk 3 (by omega) (by omega))
theorem s_X12_apartBy {G : GG} {m : Mem} {Q : Option Value → Mem → Prop} {w a b : Int} (hw : 0 ≤ w ∧ w ≤ 3) (ha : 0 ≤ a ∧ a ≤ 7) (hb : 0 ≤ b ∧ b ≤ 7) (hQ : Q (some (.int (J (gp w a b)))) m) : CM G 1 mX12_apartBy [.int (J (w)), .int (J (a)), .int (J (b))] m Q := by
  refine CM.of dkX12_apartBy (Or.inl rfl) [some _, some _, some _] rfl (Nat.le_of_ble_eq_true rfl) ?_
  rw [← gpm_gp ha hb] at hQ
  have hx := ix_le ha hb
  have h2 := ab_le (x := a - b) (n := 7) (by omega)
  refine x_iload_n (i := 0) (pc' := 1) rfl rfl rfl rfl ?_
  rcases (by omega : w = 0 ∨ w = 1 ∨ w = 2 ∨ (w < 0 ∨ 2 < w)) with c1 | c1 | c1 | c1
  · first | (exfalso; omega; done) | skip
    all_goals (
      refine x_tableIn (i := 1) (v := 0) (off := 27) (tgt := 28) rfl c1 ⟨by decide, by decide⟩ (by decide) (by decide) rfl (by decide) ?_
      refine x_iload_n (i := 2) (pc' := 29) rfl rfl rfl rfl ?_
      refine x_iload_n (i := 3) (pc' := 30) rfl rfl rfl rfl ?_
      refine x_ixor (i := 4) (pc' := 31) rfl rfl (by omega) (by omega) ?_
      refine m_callS (i := 5) (pc' := 34) (av := [_]) (rest := []) rfl rfl (by decide) lX12_121 rfl rfl (Nat.le_of_ble_eq_true rfl) (Nat.le_refl _) (Nat.le_refl _) (s_X12_ones (by omega) ?_)
      dsimp only [psh]
      exact m_ireturn (i := 6) rfl rfl (by unfold gpm at hQ; (repeat' split at hQ) <;> first | exact hQ | (unfold fg at hQ; (repeat' split at hQ) <;> first | exact hQ | (exfalso; omega)) | (exfalso; omega))
      skip)
  · first | (exfalso; omega; done) | skip
    all_goals (
      refine x_tableIn (i := 1) (v := 1) (off := 34) (tgt := 35) rfl c1 ⟨by decide, by decide⟩ (by decide) (by decide) rfl (by decide) ?_
      refine x_iload_n (i := 7) (pc' := 36) rfl rfl rfl rfl ?_
      refine x_iconst (i := 8) (pc' := 37) rfl rfl ?_
      refine x_irem (i := 9) (pc' := 38) rfl rfl ⟨by omega, by omega⟩ ⟨by omega, by omega⟩ (by omega) (by omega) ?_
      refine x_iload_n (i := 10) (pc' := 39) rfl rfl rfl rfl ?_
      refine x_iconst (i := 11) (pc' := 40) rfl rfl ?_
      refine x_irem (i := 12) (pc' := 41) rfl rfl ⟨by omega, by omega⟩ ⟨by omega, by omega⟩ (by omega) (by omega) ?_
      refine m_callS (i := 13) (pc' := 44) (av := [_, _]) (rest := []) rfl rfl (by decide) lX12_124 rfl rfl (Nat.le_of_ble_eq_true rfl) (Nat.le_refl _) (Nat.le_refl _) (s_X12_off (by omega) (by omega) ?_)
      dsimp only [psh]
      refine x_iload_n (i := 14) (pc' := 45) rfl rfl rfl rfl ?_
      refine x_iconst (i := 15) (pc' := 46) rfl rfl ?_
      refine x_idiv (i := 16) (pc' := 47) rfl rfl ⟨by omega, by omega⟩ ⟨by omega, by omega⟩ (by omega) (by omega) ?_
      refine x_iload_n (i := 17) (pc' := 48) rfl rfl rfl rfl ?_
      refine x_iconst (i := 18) (pc' := 49) rfl rfl ?_
      refine x_idiv (i := 19) (pc' := 50) rfl rfl ⟨by omega, by omega⟩ ⟨by omega, by omega⟩ (by omega) (by omega) ?_
      refine m_callS (i := 20) (pc' := 53) (av := [_, _]) (rest := [_]) rfl rfl (by decide) lX12_124 rfl rfl (Nat.le_of_ble_eq_true rfl) (Nat.le_refl _) (Nat.le_refl _) (s_X12_off (by omega) (by omega) ?_)
      dsimp only [psh]
      refine x_iadd (i := 21) (pc' := 54) rfl rfl ?_
      exact m_ireturn (i := 22) rfl rfl (by unfold gpm at hQ; (repeat' split at hQ) <;> first | exact hQ | (unfold fg at hQ; (repeat' split at hQ) <;> first | exact hQ | (exfalso; omega)) | (exfalso; omega))
      skip)
  · first | (exfalso; omega; done) | skip
    all_goals (
      refine x_tableIn (i := 1) (v := 2) (off := 54) (tgt := 55) rfl c1 ⟨by decide, by decide⟩ (by decide) (by decide) rfl (by decide) ?_
      refine x_iload_n (i := 23) (pc' := 56) rfl rfl rfl rfl ?_
      refine x_iload_n (i := 24) (pc' := 57) rfl rfl rfl rfl ?_
      refine m_callS (i := 25) (pc' := 60) (av := [_, _]) (rest := []) rfl rfl (by decide) lX12_124 rfl rfl (Nat.le_of_ble_eq_true rfl) (Nat.le_refl _) (Nat.le_refl _) (s_X12_off (by omega) (by omega) ?_)
      dsimp only [psh]
      refine x_iconst (i := 26) (pc' := 61) rfl rfl ?_
      refine x_icmple (i := 27) (pc' := 64) (tgt := 75) rfl rfl (by decide) ⟨by omega, by omega⟩ ⟨by omega, by omega⟩ (fun c2 => ?_) (fun c2 => ?_)
      · first | (exfalso; omega; done) | skip
        all_goals (
          refine x_iload_n (i := 34) (pc' := 76) rfl rfl rfl rfl ?_
          refine x_iload_n (i := 35) (pc' := 77) rfl rfl rfl rfl ?_
          refine m_callS (i := 36) (pc' := 80) (av := [_, _]) (rest := []) rfl rfl (by decide) lX12_124 rfl rfl (Nat.le_of_ble_eq_true rfl) (Nat.le_refl _) (Nat.le_refl _) (s_X12_off (by omega) (by omega) ?_)
          dsimp only [psh]
          exact m_ireturn (i := 37) rfl rfl (by unfold gpm at hQ; (repeat' split at hQ) <;> first | exact hQ | (unfold fg at hQ; (repeat' split at hQ) <;> first | exact hQ | (exfalso; omega)) | (exfalso; omega))
          skip)
      · first | (exfalso; omega; done) | skip
        all_goals (
          refine x_bipush (i := 28) (pc' := 66) rfl rfl (by decide) ?_
          refine x_iload_n (i := 29) (pc' := 67) rfl rfl rfl rfl ?_
          refine x_iload_n (i := 30) (pc' := 68) rfl rfl rfl rfl ?_
          refine m_callS (i := 31) (pc' := 71) (av := [_, _]) (rest := [_]) rfl rfl (by decide) lX12_124 rfl rfl (Nat.le_of_ble_eq_true rfl) (Nat.le_refl _) (Nat.le_refl _) (s_X12_off (by omega) (by omega) ?_)
          dsimp only [psh]
          refine x_isub (i := 32) (pc' := 72) rfl rfl ?_
          refine x_goto (i := 33) (pc' := 80) rfl (by decide) ?_
          exact m_ireturn (i := 37) rfl rfl (by unfold gpm at hQ; (repeat' split at hQ) <;> first | exact hQ | (unfold fg at hQ; (repeat' split at hQ) <;> first | exact hQ | (exfalso; omega)) | (exfalso; omega))
          skip)
      skip)
  · first | (exfalso; omega; done) | skip
    all_goals (
      refine x_tableOut (i := 1) (tgt := 81) rfl ⟨by omega, by omega⟩ c1 (by decide) ?_
      refine x_iload_n (i := 38) (pc' := 82) rfl rfl rfl rfl ?_
      refine x_iload_n (i := 39) (pc' := 83) rfl rfl rfl rfl ?_
      refine x_icmpne (i := 40) (pc' := 86) (tgt := 90) rfl rfl (by decide) ⟨by omega, by omega⟩ ⟨by omega, by omega⟩ (fun c3 => ?_) (fun c3 => ?_)
      · first | (exfalso; omega; done) | skip
        all_goals (
          refine x_iload_n (i := 43) (pc' := 91) rfl rfl rfl rfl ?_
          refine x_iconst (i := 44) (pc' := 92) rfl rfl ?_
          refine x_idiv (i := 45) (pc' := 93) rfl rfl ⟨by omega, by omega⟩ ⟨by omega, by omega⟩ (by omega) (by omega) ?_
          refine x_iload_n (i := 46) (pc' := 94) rfl rfl rfl rfl ?_
          refine x_iconst (i := 47) (pc' := 95) rfl rfl ?_
          refine x_idiv (i := 48) (pc' := 96) rfl rfl ⟨by omega, by omega⟩ ⟨by omega, by omega⟩ (by omega) (by omega) ?_
          refine x_icmpne (i := 49) (pc' := 99) (tgt := 103) rfl rfl (by decide) ⟨by omega, by omega⟩ ⟨by omega, by omega⟩ (fun c4 => ?_) (fun c4 => ?_)
          · first | (exfalso; omega; done) | skip
            all_goals (
              refine x_iload_n (i := 52) (pc' := 104) rfl rfl rfl rfl ?_
              refine x_iconst (i := 53) (pc' := 105) rfl rfl ?_
              refine x_idiv (i := 54) (pc' := 106) rfl rfl ⟨by omega, by omega⟩ ⟨by omega, by omega⟩ (by omega) (by omega) ?_
              refine x_iload_n (i := 55) (pc' := 107) rfl rfl rfl rfl ?_
              refine x_iconst (i := 56) (pc' := 108) rfl rfl ?_
              refine x_idiv (i := 57) (pc' := 109) rfl rfl ⟨by omega, by omega⟩ ⟨by omega, by omega⟩ (by omega) (by omega) ?_
              refine x_icmpne (i := 58) (pc' := 112) (tgt := 116) rfl rfl (by decide) ⟨by omega, by omega⟩ ⟨by omega, by omega⟩ (fun c5 => ?_) (fun c5 => ?_)
              · first | (exfalso; omega; done) | skip
                all_goals (
                  refine x_iconst (i := 61) (pc' := 117) rfl rfl ?_
                  exact m_ireturn (i := 62) rfl rfl (by unfold gpm at hQ; (repeat' split at hQ) <;> first | exact hQ | (unfold fg at hQ; (repeat' split at hQ) <;> first | exact hQ | (exfalso; omega)) | (exfalso; omega))
                  skip)
              · first | (exfalso; omega; done) | skip
                all_goals (
                  refine x_iconst (i := 59) (pc' := 113) rfl rfl ?_
                  refine x_goto (i := 60) (pc' := 117) rfl (by decide) ?_
                  exact m_ireturn (i := 62) rfl rfl (by unfold gpm at hQ; (repeat' split at hQ) <;> first | exact hQ | (unfold fg at hQ; (repeat' split at hQ) <;> first | exact hQ | (exfalso; omega)) | (exfalso; omega))
                  skip)
              skip)
          · first | (exfalso; omega; done) | skip
            all_goals (
              refine x_iconst (i := 50) (pc' := 100) rfl rfl ?_
              refine x_goto (i := 51) (pc' := 117) rfl (by decide) ?_
              exact m_ireturn (i := 62) rfl rfl (by unfold gpm at hQ; (repeat' split at hQ) <;> first | exact hQ | (unfold fg at hQ; (repeat' split at hQ) <;> first | exact hQ | (exfalso; omega)) | (exfalso; omega))
              skip)
          skip)
      · first | (exfalso; omega; done) | skip
        all_goals (
          refine x_iconst (i := 41) (pc' := 87) rfl rfl ?_
          refine x_goto (i := 42) (pc' := 117) rfl (by decide) ?_
          exact m_ireturn (i := 62) rfl rfl (by unfold gpm at hQ; (repeat' split at hQ) <;> first | exact hQ | (unfold fg at hQ; (repeat' split at hQ) <;> first | exact hQ | (exfalso; omega)) | (exfalso; omega))
          skip)
      skip)
theorem s_X12_apartOf {G : GG} {m : Mem} {Q : Option Value → Mem → Prop} {j h p q f : Int} (hj : 0 ≤ j ∧ j ≤ 15) (hv : PV m j) (h1 : 0 ≤ h ∧ h ≤ 7) (h2 : 0 ≤ p ∧ p ≤ 7) (h3 : 0 ≤ q ∧ q ≤ 7) (h4 : 0 ≤ f ∧ f ≤ 7) (hQ : Q (some (.int (J (ao m j h p q f)))) m) : CM G 2 mX12_apartOf [.ref (G.2.2.2 76), .int (J (j)), .int (J (h)), .int (J (p)), .int (J (q)), .int (J (f))] m Q := by
  refine CM.of dkX12_apartOf (Or.inl rfl) [some _, some _, some _, some _, some _, some _] rfl (Nat.le_of_ble_eq_true rfl) ?_
  refine x_aload_n (i := 0) (pc' := 1) rfl rfl rfl rfl ?_
  refine m_getf (i := 1) (pc' := 4) rfl rfl flX12_7 (sh76 G) rfl rfl ?_
  refine x_sipush (i := 2) (pc' := 7) rfl rfl (by decide) ?_
  refine m_iald (i := 3) (pc' := 8) rfl rfl (sh77 G) (by decide) ⟨by omega, by omega⟩ ?_
  refine x_iconst (i := 4) (pc' := 9) rfl rfl ?_
  refine x_aload_n (i := 5) (pc' := 10) rfl rfl rfl rfl ?_
  refine x_iload_n (i := 6) (pc' := 11) rfl rfl rfl rfl ?_
  refine x_iconst (i := 7) (pc' := 12) rfl rfl ?_
  refine m_callV (i := 8) (pc' := 15) (av := [_, _]) (rest := [_, _]) rfl rfl (by decide) lX12_52 (sh76 G) rfl rfl rfl rfl rfl (Nat.le_of_ble_eq_true rfl) (Nat.le_refl _) (Nat.le_refl _) (s_X12_part (by omega) (by omega) ?_)
  dsimp only [psh]
  refine x_iload_n (i := 9) (pc' := 16) rfl rfl rfl rfl ?_
  refine m_callS (i := 10) (pc' := 19) (av := [_, _, _]) (rest := [_]) rfl rfl (by decide) lX12_127 rfl rfl (Nat.le_of_ble_eq_true rfl) (Nat.le_refl _) (Nat.le_refl _) (s_X12_apartBy (by omega) (hv 0 (by omega) (by omega)) h1 ?_)
  dsimp only [psh]
  refine x_imul (i := 11) (pc' := 20) rfl rfl ?_
  refine x_aload_n (i := 12) (pc' := 21) rfl rfl rfl rfl ?_
  refine m_getf (i := 13) (pc' := 24) rfl rfl flX12_7 (sh76 G) rfl rfl ?_
  refine x_sipush (i := 14) (pc' := 27) rfl rfl (by decide) ?_
  refine m_iald (i := 15) (pc' := 28) rfl rfl (sh77 G) (by decide) ⟨by omega, by omega⟩ ?_
  refine x_iconst (i := 16) (pc' := 29) rfl rfl ?_
  refine x_aload_n (i := 17) (pc' := 30) rfl rfl rfl rfl ?_
  refine x_iload_n (i := 18) (pc' := 31) rfl rfl rfl rfl ?_
  refine x_iconst (i := 19) (pc' := 32) rfl rfl ?_
  refine m_callV (i := 20) (pc' := 35) (av := [_, _]) (rest := [_, _, _]) rfl rfl (by decide) lX12_52 (sh76 G) rfl rfl rfl rfl rfl (Nat.le_of_ble_eq_true rfl) (Nat.le_refl _) (Nat.le_refl _) (s_X12_part (by omega) (by omega) ?_)
  dsimp only [psh]
  refine x_iload_n (i := 21) (pc' := 36) rfl rfl rfl rfl ?_
  refine m_callS (i := 22) (pc' := 39) (av := [_, _, _]) (rest := [_, _]) rfl rfl (by decide) lX12_127 rfl rfl (Nat.le_of_ble_eq_true rfl) (Nat.le_refl _) (Nat.le_refl _) (s_X12_apartBy (by omega) (hv 1 (by omega) (by omega)) h2 ?_)
  dsimp only [psh]
  refine x_imul (i := 23) (pc' := 40) rfl rfl ?_
  refine x_iadd (i := 24) (pc' := 41) rfl rfl ?_
  refine x_aload_n (i := 25) (pc' := 42) rfl rfl rfl rfl ?_
  refine m_getf (i := 26) (pc' := 45) rfl rfl flX12_7 (sh76 G) rfl rfl ?_
  refine x_sipush (i := 27) (pc' := 48) rfl rfl (by decide) ?_
  refine m_iald (i := 28) (pc' := 49) rfl rfl (sh77 G) (by decide) ⟨by omega, by omega⟩ ?_
  refine x_iconst (i := 29) (pc' := 50) rfl rfl ?_
  refine x_aload_n (i := 30) (pc' := 51) rfl rfl rfl rfl ?_
  refine x_iload_n (i := 31) (pc' := 52) rfl rfl rfl rfl ?_
  refine x_iconst (i := 32) (pc' := 53) rfl rfl ?_
  refine m_callV (i := 33) (pc' := 56) (av := [_, _]) (rest := [_, _, _]) rfl rfl (by decide) lX12_52 (sh76 G) rfl rfl rfl rfl rfl (Nat.le_of_ble_eq_true rfl) (Nat.le_refl _) (Nat.le_refl _) (s_X12_part (by omega) (by omega) ?_)
  dsimp only [psh]
  refine x_iload (i := 34) (pc' := 58) rfl rfl rfl ?_
  refine m_callS (i := 35) (pc' := 61) (av := [_, _, _]) (rest := [_, _]) rfl rfl (by decide) lX12_127 rfl rfl (Nat.le_of_ble_eq_true rfl) (Nat.le_refl _) (Nat.le_refl _) (s_X12_apartBy (by omega) (hv 2 (by omega) (by omega)) h3 ?_)
  dsimp only [psh]
  refine x_imul (i := 36) (pc' := 62) rfl rfl ?_
  refine x_iadd (i := 37) (pc' := 63) rfl rfl ?_
  refine x_aload_n (i := 38) (pc' := 64) rfl rfl rfl rfl ?_
  refine m_getf (i := 39) (pc' := 67) rfl rfl flX12_7 (sh76 G) rfl rfl ?_
  refine x_sipush (i := 40) (pc' := 70) rfl rfl (by decide) ?_
  refine m_iald (i := 41) (pc' := 71) rfl rfl (sh77 G) (by decide) ⟨by omega, by omega⟩ ?_
  refine x_iconst (i := 42) (pc' := 72) rfl rfl ?_
  refine x_aload_n (i := 43) (pc' := 73) rfl rfl rfl rfl ?_
  refine x_iload_n (i := 44) (pc' := 74) rfl rfl rfl rfl ?_
  refine x_iconst (i := 45) (pc' := 75) rfl rfl ?_
  refine m_callV (i := 46) (pc' := 78) (av := [_, _]) (rest := [_, _, _]) rfl rfl (by decide) lX12_52 (sh76 G) rfl rfl rfl rfl rfl (Nat.le_of_ble_eq_true rfl) (Nat.le_refl _) (Nat.le_refl _) (s_X12_part (by omega) (by omega) ?_)
  dsimp only [psh]
  refine x_iload (i := 47) (pc' := 80) rfl rfl rfl ?_
  refine m_callS (i := 48) (pc' := 83) (av := [_, _, _]) (rest := [_, _]) rfl rfl (by decide) lX12_127 rfl rfl (Nat.le_of_ble_eq_true rfl) (Nat.le_refl _) (Nat.le_refl _) (s_X12_apartBy (by omega) (hv 3 (by omega) (by omega)) h4 ?_)
  dsimp only [psh]
  refine x_imul (i := 49) (pc' := 84) rfl rfl ?_
  refine x_iadd (i := 50) (pc' := 85) rfl rfl ?_
  exact m_ireturn (i := 51) rfl rfl (hQ)
theorem s_X12_between {G : GG} {m : Mem} {Q : Option Value → Mem → Prop} {j k : Int} (hj : 0 ≤ j ∧ j ≤ 15) (hk : 0 ≤ k ∧ k ≤ 15) (hv : PV m j) (hu : PV m k) (hQ : Q (some (.int (J (btw m j k)))) m) : CM G 3 mX12_between [.ref (G.2.2.2 76), .int (J (j)), .int (J (k))] m Q := by
  refine CM.of dkX12_between (Or.inl rfl) [some _, some _, some _] rfl (Nat.le_of_ble_eq_true rfl) ?_
  refine x_aload_n (i := 0) (pc' := 1) rfl rfl rfl rfl ?_
  refine x_iload_n (i := 1) (pc' := 2) rfl rfl rfl rfl ?_
  refine x_aload_n (i := 2) (pc' := 3) rfl rfl rfl rfl ?_
  refine x_iload_n (i := 3) (pc' := 4) rfl rfl rfl rfl ?_
  refine x_iconst (i := 4) (pc' := 5) rfl rfl ?_
  refine m_callV (i := 5) (pc' := 8) (av := [_, _]) (rest := [_, _]) rfl rfl (by decide) lX12_52 (sh76 G) rfl rfl rfl rfl rfl (Nat.le_of_ble_eq_true rfl) (Nat.le_refl _) (Nat.le_refl _) (s_X12_part (by omega) (by omega) ?_)
  dsimp only [psh]
  refine x_aload_n (i := 6) (pc' := 9) rfl rfl rfl rfl ?_
  refine x_iload_n (i := 7) (pc' := 10) rfl rfl rfl rfl ?_
  refine x_iconst (i := 8) (pc' := 11) rfl rfl ?_
  refine m_callV (i := 9) (pc' := 14) (av := [_, _]) (rest := [_, _, _]) rfl rfl (by decide) lX12_52 (sh76 G) rfl rfl rfl rfl rfl (Nat.le_of_ble_eq_true rfl) (Nat.le_refl _) (Nat.le_refl _) (s_X12_part (by omega) (by omega) ?_)
  dsimp only [psh]
  refine x_aload_n (i := 10) (pc' := 15) rfl rfl rfl rfl ?_
  refine x_iload_n (i := 11) (pc' := 16) rfl rfl rfl rfl ?_
  refine x_iconst (i := 12) (pc' := 17) rfl rfl ?_
  refine m_callV (i := 13) (pc' := 20) (av := [_, _]) (rest := [_, _, _, _]) rfl rfl (by decide) lX12_52 (sh76 G) rfl rfl rfl rfl rfl (Nat.le_of_ble_eq_true rfl) (Nat.le_refl _) (Nat.le_refl _) (s_X12_part (by omega) (by omega) ?_)
  dsimp only [psh]
  refine x_aload_n (i := 14) (pc' := 21) rfl rfl rfl rfl ?_
  refine x_iload_n (i := 15) (pc' := 22) rfl rfl rfl rfl ?_
  refine x_iconst (i := 16) (pc' := 23) rfl rfl ?_
  refine m_callV (i := 17) (pc' := 26) (av := [_, _]) (rest := [_, _, _, _, _]) rfl rfl (by decide) lX12_52 (sh76 G) rfl rfl rfl rfl rfl (Nat.le_of_ble_eq_true rfl) (Nat.le_refl _) (Nat.le_refl _) (s_X12_part (by omega) (by omega) ?_)
  dsimp only [psh]
  refine m_callV (i := 18) (pc' := 29) (av := [_, _, _, _, _]) (rest := []) rfl rfl (by decide) lX12_131 (sh76 G) rfl rfl rfl rfl rfl (Nat.le_of_ble_eq_true rfl) (Nat.le_refl _) (Nat.le_refl _) (s_X12_apartOf (by omega) hv (hu 0 (by omega) (by omega)) (hu 1 (by omega) (by omega)) (hu 2 (by omega) (by omega)) (hu 3 (by omega) (by omega)) ?_)
  dsimp only [psh]
  exact m_ireturn (i := 19) rfl rfl (hQ)
theorem s_X12_isAsked {G : GG} {m : Mem} {Q : Option Value → Mem → Prop} {a : Int} (ha : rg a) (hQ : Q (some (.int (J (if -1 ≤ a ∧ a ≤ 7 then 1 else 0)))) m) : CM G 1 mX12_isAsked [.int (J (a))] m Q := by
  refine CM.of dkX12_isAsked (Or.inl rfl) [some _] rfl (Nat.le_of_ble_eq_true rfl) ?_
  refine x_iload_n (i := 0) (pc' := 1) rfl rfl rfl rfl ?_
  refine x_i2l (i := 1) (pc' := 2) rfl rfl (by omega) ?_
  refine x_ldc2 (i := 2) (pc' := 5) rfl rfl kX12_137 ?_
  refine x_ldc2 (i := 3) (pc' := 8) rfl rfl kX12_46 ?_
  refine m_callS (i := 4) (pc' := 11) (av := [_, _, _]) (rest := []) rfl rfl (by decide) lX12_42 rfl rfl (Nat.le_of_ble_eq_true rfl) (Nat.le_refl _) (Nat.le_refl _) (s_X12_in (by omega) (by omega) (by omega) ?_)
  dsimp only [psh]
  exact m_zreturn (i := 5) rfl rfl (by (repeat' split) <;> omega) (hQ)
theorem s_X12_isSo {G : GG} {m : Mem} {Q : Option Value → Mem → Prop} {a b c : Int} (hM : MR m) (ha : 0 ≤ a ∧ a ≤ 15) (hb : 0 ≤ b ∧ b ≤ 3) (hc : rg c) (hQ : Q (some (.int (J (if c = -1 ∨ m 77 (2 + 5 * a + b) = c then 1 else 0)))) m) : CM G 1 mX12_isSo [.ref (G.2.2.2 76), .int (J (a)), .int (J (b)), .int (J (c))] m Q := by
  refine CM.of dkX12_isSo (Or.inl rfl) [some _, some _, some _, some _] rfl (Nat.le_of_ble_eq_true rfl) ?_
  refine x_iload_n (i := 0) (pc' := 1) rfl rfl rfl rfl ?_
  refine x_iconst (i := 1) (pc' := 2) rfl rfl ?_
  refine x_icmpeq (i := 2) (pc' := 5) (tgt := 15) rfl rfl (by decide) (by first | omega | exact hM _ _) (by first | omega | exact hM _ _) (fun c1 => ?_) (fun c1 => ?_)
  · skip
    refine x_iconst (i := 9) (pc' := 16) rfl rfl ?_
    refine x_goto (i := 10) (pc' := 20) rfl (by decide) ?_
    exact m_zreturn (i := 12) rfl rfl (by omega) (by (repeat' split at hQ) <;> first | exact hQ | (exfalso; omega))
  · skip
    refine x_aload_n (i := 3) (pc' := 6) rfl rfl rfl rfl ?_
    refine x_iload_n (i := 4) (pc' := 7) rfl rfl rfl rfl ?_
    refine x_iload_n (i := 5) (pc' := 8) rfl rfl rfl rfl ?_
    refine m_callV (i := 6) (pc' := 11) (av := [_, _]) (rest := []) rfl rfl (by decide) lX12_52 (sh76 G) rfl rfl rfl rfl rfl (Nat.le_of_ble_eq_true rfl) (Nat.le_refl _) (Nat.le_refl _) (s_X12_part (by omega) (by omega) ?_)
    dsimp only [psh]
    refine x_iload_n (i := 7) (pc' := 12) rfl rfl rfl rfl ?_
    refine x_icmpne (i := 8) (pc' := 15) (tgt := 19) rfl rfl (by decide) (by first | omega | exact hM _ _) (by first | omega | exact hM _ _) (fun c2 => ?_) (fun c2 => ?_)
    · skip
      refine x_iconst (i := 11) (pc' := 20) rfl rfl ?_
      exact m_zreturn (i := 12) rfl rfl (by omega) (by (repeat' split at hQ) <;> first | exact hQ | (exfalso; omega))
    · skip
      refine x_iconst (i := 9) (pc' := 16) rfl rfl ?_
      refine x_goto (i := 10) (pc' := 20) rfl (by decide) ?_
      exact m_zreturn (i := 12) rfl rfl (by omega) (by (repeat' split at hQ) <;> first | exact hQ | (exfalso; omega))
def nrf (m : Mem) (k d : Int) : Int := it (fun j x => io x (if btw m j k ≤ d then 1 * 2 ^ j.toNat else 0)) 0 (m 77 0).toNat 0
def lks (m : Mem) (a b c d : Int) : Int := it (fun j x => io x (if (a = -1 ∨ m 77 (2 + 5 * j + 0) = a) ∧ (b = -1 ∨ m 77 (2 + 5 * j + 1) = b) ∧ (c = -1 ∨ m 77 (2 + 5 * j + 2) = c) ∧ (d = -1 ∨ m 77 (2 + 5 * j + 3) = d) then 1 * 2 ^ j.toNat else 0)) 0 (m 77 0).toNat 0
theorem pw16 {j : Int} (h : 0 ≤ j ∧ j ≤ 15) : 1 ≤ (1 : Int) * 2 ^ j.toNat ∧ (1 : Int) * 2 ^ j.toNat < 65536 := by
  have : ∀ n : Nat, n < 16 → 1 ≤ (1 : Int) * 2 ^ n ∧ (1 : Int) * 2 ^ n < 65536 := by decide
  exact this j.toNat (by omega)
theorem nrf_le (m : Mem) (hn : NM m) (k d : Int) : 0 ≤ nrf m k d ∧ nrf m k d < 65536 := by
  have h1 := hn.2
  refine it_I (I := fun x : Int => 0 ≤ x ∧ x < 65536) _ _ _ (fun i y a b hy => ?_) (by decide)
  have hp := pw16 (j := i) (by omega)
  exact ⟨io_nn _ _, io_lt 16 hy (by split <;> omega)⟩
def sos (m : Mem) (s : Int) : Int := it (fun k x => x + (if m 77 (2 + 5 * k + 4) = s then 1 else 0)) 0 (m 77 0).toNat 0
def nst (m : Mem) (h p q f : Int) : Int := it (fun k x => if x = -1 ∨ ao m k h p q f < ao m x h p q f then k else x) 0 (m 77 0).toNat (-1)
theorem s_X12_nearOf {G : GG} {m : Mem} {Q : Option Value → Mem → Prop} {a b : Int} (hM : MR m) (hn : NM m) (hv : PVs m) (hw : WTm m) (ha : 0 ≤ a ∧ a < m 77 0) (hb : rg b) (hQ : Q (some (.int (J (nrf m a b)))) m) : CM G 4 mX12_nearOf [.ref (G.2.2.2 76), .int (J (a)), .int (J (b))] m Q := by
  refine CM.of dkX12_nearOf (Or.inl rfl) [some _, some _, some _, none, none] rfl (Nat.le_of_ble_eq_true rfl) ?_
  have hn0 := hn.1; have hn1 := hn.2
  have hva := hv a (by omega) (by omega)
  refine x_iconst (i := 0) (pc' := 1) rfl rfl ?_
  refine x_istore_n (L' := [some _, some _, some _, some _, none]) (i := 1) (pc' := 2) rfl rfl rfl rfl (by decide) rfl ?_
  refine x_iconst (i := 2) (pc' := 3) rfl rfl ?_
  refine x_istore (L' := [some _, some _, some _, some _, some _]) (i := 3) (pc' := 5) rfl rfl rfl (by decide) rfl ?_
  skip
  refine up_ind1 (P := fun (j : Int) (x : Int) => BW G 4 mX12_nearOf Q 5 [some (.ref (G.2.2.2 76)), some (.int (J (a))), some (.int (J (b))), some (.int (J (x))), some (.int (J (j)))] [] m) (fun (j : Int) (x : Int) => io x (if btw m j a ≤ b then 1 * 2 ^ j.toNat else 0)) (fun (j : Int) (x : Int) => 0 ≤ x) (m 77 0) (0) (0) (by omega) (by omega) (fun j x hj0 hj hi => io_nn _ _) (fun j x hj0 hj hi hk => ?_) (fun hi => ?_)
  · have hvj := hv j (by omega) (by omega)
    have hd := btw_le hvj hva hw
    refine x_iload (i := 4) (pc' := 7) rfl rfl rfl ?_
    refine x_aload_n (i := 5) (pc' := 8) rfl rfl rfl rfl ?_
    refine m_getf (i := 6) (pc' := 11) rfl rfl flX12_7 (sh76 G) rfl rfl ?_
    refine x_iconst (i := 7) (pc' := 12) rfl rfl ?_
    refine m_iald (i := 8) (pc' := 13) rfl rfl (sh77 G) (by decide) ⟨by first | omega | (exact Int.mul_nonneg (by omega) (Int.le_of_lt (Int.pow_pos (by omega)))), by first | omega | (exact Int.mul_nonneg (by omega) (Int.le_of_lt (Int.pow_pos (by omega))))⟩ ?_
    refine x_icmpge (i := 9) (pc' := 16) (tgt := 44) rfl rfl (by decide) ⟨by omega, by omega⟩ ⟨by omega, by omega⟩ (fun c1 => by exfalso; omega) (fun c1 => ?_)
    refine x_iload_n (i := 10) (pc' := 17) rfl rfl rfl rfl ?_
    refine x_aload_n (i := 11) (pc' := 18) rfl rfl rfl rfl ?_
    refine x_iload (i := 12) (pc' := 20) rfl rfl rfl ?_
    refine x_iload_n (i := 13) (pc' := 21) rfl rfl rfl rfl ?_
    refine m_callV (i := 14) (pc' := 24) (av := [_, _]) (rest := [_]) rfl rfl (by decide) lX12_134 (sh76 G) rfl rfl rfl rfl rfl (Nat.le_of_ble_eq_true rfl) (Nat.le_refl _) (Nat.le_refl _) (s_X12_between (by omega) (by omega) hvj hva ?_)
    dsimp only [psh]
    refine x_iload_n (i := 15) (pc' := 25) rfl rfl rfl rfl ?_
    refine x_icmpgt (i := 16) (pc' := 28) (tgt := 35) rfl rfl (by decide) ⟨by omega, by omega⟩ ⟨by omega, by omega⟩ (fun c2 => ?_) (fun c2 => ?_)
    · skip
      refine x_iconst (i := 21) (pc' := 36) rfl rfl ?_
      refine x_ior (i := 22) (pc' := 37) rfl rfl (by first | omega | (exact Int.mul_nonneg (by omega) (Int.le_of_lt (Int.pow_pos (by omega))))) (by first | omega | (exact Int.mul_nonneg (by omega) (Int.le_of_lt (Int.pow_pos (by omega))))) ?_
      refine x_istore_n (L' := [some _, some _, some _, some _, some _]) (i := 23) (pc' := 38) rfl rfl rfl rfl (by decide) rfl ?_
      refine x_iinc (L' := [some _, some _, some _, some _, some _]) (i := 24) (pc' := 41) rfl rfl rfl rfl (by decide) rfl ?_
      refine x_goto (i := 25) (pc' := 5) rfl (by decide) ?_
      (first | exact hk | (refine AW.le ?_ hk; simp [lvle]; done) | ((repeat' split at hk) <;> first | exact hk | (refine AW.le ?_ hk; simp [lvle]; done) | (exfalso; omega)))
    · skip
      refine x_iconst (i := 17) (pc' := 29) rfl rfl ?_
      refine x_iload (i := 18) (pc' := 31) rfl rfl rfl ?_
      refine x_ishl (i := 19) (pc' := 32) rfl rfl (by first | omega | (exact Int.mul_nonneg (by omega) (Int.le_of_lt (Int.pow_pos (by omega))))) (by first | omega | (exact Int.mul_nonneg (by omega) (Int.le_of_lt (Int.pow_pos (by omega))))) ?_
      refine x_goto (i := 20) (pc' := 36) rfl (by decide) ?_
      refine x_ior (i := 22) (pc' := 37) rfl rfl (by first | omega | (exact Int.mul_nonneg (by omega) (Int.le_of_lt (Int.pow_pos (by omega))))) (by first | omega | (exact Int.mul_nonneg (by omega) (Int.le_of_lt (Int.pow_pos (by omega))))) ?_
      refine x_istore_n (L' := [some _, some _, some _, some _, some _]) (i := 23) (pc' := 38) rfl rfl rfl rfl (by decide) rfl ?_
      refine x_iinc (L' := [some _, some _, some _, some _, some _]) (i := 24) (pc' := 41) rfl rfl rfl rfl (by decide) rfl ?_
      refine x_goto (i := 25) (pc' := 5) rfl (by decide) ?_
      (first | exact hk | (refine AW.le ?_ hk; simp [lvle]; done) | ((repeat' split at hk) <;> first | exact hk | (refine AW.le ?_ hk; simp [lvle]; done) | (exfalso; omega)))
  · skip
    refine x_iload (i := 4) (pc' := 7) rfl rfl rfl ?_
    refine x_aload_n (i := 5) (pc' := 8) rfl rfl rfl rfl ?_
    refine m_getf (i := 6) (pc' := 11) rfl rfl flX12_7 (sh76 G) rfl rfl ?_
    refine x_iconst (i := 7) (pc' := 12) rfl rfl ?_
    refine m_iald (i := 8) (pc' := 13) rfl rfl (sh77 G) (by decide) ⟨by omega, by omega⟩ ?_
    refine x_icmpge (i := 9) (pc' := 16) (tgt := 44) rfl rfl (by decide) ⟨by omega, by omega⟩ ⟨by omega, by omega⟩ (fun c1 => ?_) (fun c1 => by exfalso; omega)
    refine x_iload_n (i := 26) (pc' := 45) rfl rfl rfl rfl ?_
    exact m_ireturn (i := 27) rfl rfl (by rw [Int.sub_zero]; exact hQ)
