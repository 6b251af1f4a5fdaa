theorem apm_n (m : Mem) : apm m 2 2 = m 2 2 + 1 := by simp [apm, stm, sr, ur]
theorem MR.ask {m : Mem} (hM : MR m) {h p q f : Int} (h1 : rg h) (h2 : rg p) (h3 : rg q) (h4 : rg f) : MR (askm m h p q f) := (((hM.st h1).st h2).st h3).st h4
noncomputable def apr (m : Mem) : Int := if bp (he m 16) = 0 then (if m 2 2 < 16 then m 2 2 else -4) else -3
noncomputable def apx (m : Mem) : Mem := if bp (he m 16) = 0 ∧ m 2 2 < 16 then apm m else m
theorem apr_rg {m : Mem} (h : CN m) : -4 ≤ apr m ∧ apr m ≤ 15 := by
  have h1 := h.1
  unfold apr
  (repeat' split) <;> omega
theorem MR.ap {m : Mem} (hM : MR m) (h : CN m) : MR (apx m) := by
  have h1 := h.1
  unfold apx apm
  split
  · exact hM.cp.st (by omega)
  · exact hM
theorem CN.ap {m : Mem} (h : CN m) : CN (apx m) := by
  have h1 := h.1; have h2 := h.2
  unfold CN apx
  split
  · rw [apm_n]; omega
  · exact h
noncomputable def adr (m : Mem) (h p q f s : Int) : Int := if ((0 ≤ h ∧ h ≤ 7) ∧ (0 ≤ p ∧ p ≤ 7) ∧ (0 ≤ q ∧ q ≤ 7) ∧ (0 ≤ f ∧ f ≤ 7)) ∧ (0 ≤ s ∧ s ≤ 3) then apr (stm (askm m h p q f) 3 84 s) else -2
noncomputable def adx (m : Mem) (h p q f s : Int) : Mem := if ((0 ≤ h ∧ h ≤ 7) ∧ (0 ≤ p ∧ p ≤ 7) ∧ (0 ≤ q ∧ q ≤ 7) ∧ (0 ≤ f ∧ f ≤ 7)) ∧ (0 ≤ s ∧ s ≤ 3) then apx (stm (askm m h p q f) 3 84 s) else m
noncomputable def chr (m : Mem) (k w v : Int) : Int := if (0 ≤ k ∧ k < m 2 2) ∧ (0 ≤ w ∧ w ≤ 4) ∧ (0 ≤ v ∧ v ≤ (if w = 4 then 3 else 7)) then (if bp (he (stm m 3 (k * 5 + w) v) k) = 0 then m 3 (k * 5 + w) else -3) else -2
noncomputable def chx (m : Mem) (k w v : Int) : Mem := if ((0 ≤ k ∧ k < m 2 2) ∧ (0 ≤ w ∧ w ≤ 4) ∧ (0 ≤ v ∧ v ≤ (if w = 4 then 3 else 7))) ∧ bp (he (stm m 3 (k * 5 + w) v) k) = 0 then stm m 3 (k * 5 + w) v else m
def rmm (m : Mem) (k : Int) : Mem := stm (sr m 3 (cpr (m 3) (m 3) ((k + 1) * 5) (k * 5) ((m 2 2 - 1 - k) * 5))) 2 2 (m 2 2 - 1)
def cs (m : Mem) (s : Int) : Int := it (fun k x => if m 3 (k * 5 + 4) = s then x + 1 else x) 0 (m 2 2).toNat 0
theorem rmm_n (m : Mem) (k : Int) : rmm m k 2 2 = m 2 2 - 1 := by simp [rmm, stm, sr, ur]
theorem s_X3_appendAsked {G : GG} {m : Mem} {Q : Option Value → Mem → Prop} (hM : MR m) (hn : CN m) (hQ : Q (some (.int (J (apr m)))) (apx m)) : CM G 3 mX3_appendAsked [.ref (G.2.2.2 2)] m Q := by
  refine CM.of dkX3_appendAsked (Or.inl rfl) [some _] rfl (Nat.le_of_ble_eq_true rfl) ?_
  have hn0 := hn.1; have hn1 := hn.2
  have hb := bp_01 (he m 16)
  refine x_aload_n (i := 0) (pc' := 1) rfl rfl rfl rfl ?_
  refine x_bipush (i := 1) (pc' := 3) rfl rfl (by decide) ?_
  refine m_callV (i := 2) (pc' := 6) (av := [_]) (rest := []) rfl rfl (by decide) lX3_48 (sh2 G) rfl rfl rfl rfl rfl (Nat.le_of_ble_eq_true rfl) (Nat.le_refl _) (Nat.le_refl _) (s_X3_hasEqual hM hn (by omega) ?_)
  dsimp only [psh]
  refine x_ifeq (i := 3) (pc' := 9) (tgt := 12) rfl rfl (by decide) ⟨by omega, by omega⟩ (fun c1 => ?_) (fun c1 => ?_)
  · skip
    refine x_aload_n (i := 6) (pc' := 13) rfl rfl rfl rfl ?_
    refine m_getf (i := 7) (pc' := 16) rfl rfl flX3_18 (sh2 G) rfl rfl ?_
    refine x_bipush (i := 8) (pc' := 18) rfl rfl (by decide) ?_
    refine x_icmplt (i := 9) (pc' := 21) (tgt := 24) rfl rfl (by decide) ⟨by omega, by omega⟩ ⟨by omega, by omega⟩ (fun c2 => ?_) (fun c2 => ?_)
    · skip
      refine x_aload_n (i := 12) (pc' := 25) rfl rfl rfl rfl ?_
      refine m_getf (i := 13) (pc' := 28) rfl rfl flX3_9 (sh2 G) rfl rfl ?_
      refine x_bipush (i := 14) (pc' := 30) rfl rfl (by decide) ?_
      refine x_aload_n (i := 15) (pc' := 31) rfl rfl rfl rfl ?_
      refine m_getf (i := 16) (pc' := 34) rfl rfl flX3_9 (sh2 G) rfl rfl ?_
      refine x_aload_n (i := 17) (pc' := 35) rfl rfl rfl rfl ?_
      refine m_getf (i := 18) (pc' := 38) rfl rfl flX3_18 (sh2 G) rfl rfl ?_
      refine x_iconst (i := 19) (pc' := 39) rfl rfl ?_
      refine x_imul (i := 20) (pc' := 40) rfl rfl ?_
      refine x_iconst (i := 21) (pc' := 41) rfl rfl ?_
      refine m_copy (i := 22) (pc' := 44) rfl rfl (by decide) acX3_22 (sh3 G) (sh3 G) (by decide) (by decide) (by first | omega | (show _ ≤ ((85 : Nat) : Int); omega)) (by first | omega | (show _ ≤ ((85 : Nat) : Int); omega)) (by first | omega | (show _ ≤ ((85 : Nat) : Int); omega)) (by first | omega | (show _ ≤ ((85 : Nat) : Int); omega)) (by first | omega | (show _ ≤ ((85 : Nat) : Int); omega)) (Nat.le_of_ble_eq_true rfl) ac_n ac_s ac_i ?_
      refine x_aload_n (i := 23) (pc' := 45) rfl rfl rfl rfl ?_
      refine x_dup (i := 24) (pc' := 46) rfl rfl rfl ?_
      refine m_getf (i := 25) (pc' := 49) rfl rfl flX3_18 (sh2 G) rfl rfl ?_
      refine x_iconst (i := 26) (pc' := 50) rfl rfl ?_
      refine x_iadd (i := 27) (pc' := 51) rfl rfl ?_
      refine m_putf (kz := 2) (i := 28) (pc' := 54) rfl rfl flX3_18 (sh2 G) (fun _ => rfl) rfl (Nat.le_of_ble_eq_true rfl) rfl rfl ?_
      refine x_aload_n (i := 29) (pc' := 55) rfl rfl rfl rfl ?_
      refine m_getf (i := 30) (pc' := 58) rfl rfl flX3_18 (sh2 G) rfl rfl ?_
      refine x_iconst (i := 31) (pc' := 59) rfl rfl ?_
      refine x_isub (i := 32) (pc' := 60) rfl rfl ?_
      exact m_ireturn (i := 33) rfl rfl (by unfold apr apx at hQ; (repeat' split at hQ) <;> first | exact hQ | (exfalso; omega) | (have e9 : m 2 2 = apm m 2 2 - 1 := (by rw [apm_n]; omega); rw [e9] at hQ; exact hQ))
    · skip
      refine x_bipush (i := 10) (pc' := 23) rfl rfl (by decide) ?_
      exact m_ireturn (i := 11) rfl rfl (by unfold apr apx at hQ; (repeat' split at hQ) <;> first | exact hQ | (exfalso; omega) | (have e9 : m 2 2 = apm m 2 2 - 1 := (by rw [apm_n]; omega); rw [e9] at hQ; exact hQ))
  · skip
    refine x_bipush (i := 4) (pc' := 11) rfl rfl (by decide) ?_
    exact m_ireturn (i := 5) rfl rfl (by unfold apr apx at hQ; (repeat' split at hQ) <;> first | exact hQ | (exfalso; omega) | (have e9 : m 2 2 = apm m 2 2 - 1 := (by rw [apm_n]; omega); rw [e9] at hQ; exact hQ))
theorem s_X3_addSign {G : GG} {m : Mem} {Q : Option Value → Mem → Prop} {h p q f s : Int} (hM : MR m) (hn : CN m) (h1 : rg h) (h2 : rg p) (h3 : rg q) (h4 : rg f) (h5 : rg s) (hQ : Q (some (.int (J (adr m h p q f s)))) (adx m h p q f s)) : CM G 4 mX3_addSign [.ref (G.2.2.2 2), .int (J (h)), .int (J (p)), .int (J (q)), .int (J (f)), .int (J (s))] m Q := by
  refine CM.of dkX3_addSign (Or.inl rfl) [some _, some _, some _, some _, some _, some _] rfl (Nat.le_of_ble_eq_true rfl) ?_
  refine x_iload_n (i := 0) (pc' := 1) rfl rfl rfl rfl ?_
  refine x_iload_n (i := 1) (pc' := 2) rfl rfl rfl rfl ?_
  refine x_iload_n (i := 2) (pc' := 3) rfl rfl rfl rfl ?_
  refine x_iload (i := 3) (pc' := 5) rfl rfl rfl ?_
  refine x_iconst (i := 4) (pc' := 6) rfl rfl ?_
  refine m_callS (i := 5) (pc' := 9) (av := [_, _, _, _, _]) (rest := []) rfl rfl (by decide) lX3_36 rfl rfl (Nat.le_of_ble_eq_true rfl) (Nat.le_refl _) (Nat.le_refl _) (s_X11_areWithin h1 h2 h3 h4 (by omega) ?_)
  dsimp only [psh]
  refine x_ifeq (i := 6) (pc' := 12) (tgt := 22) rfl rfl (by decide) (by (repeat' split) <;> omega) (fun c1 => ?_) (fun c1 => ?_)
  · skip
    refine x_bipush (i := 12) (pc' := 24) rfl rfl (by decide) ?_
    exact m_ireturn (i := 13) rfl rfl (by unfold adr adx at hQ; (repeat' split at hQ) <;> first | exact hQ | (exfalso; omega))
  · skip
    refine x_iload (i := 7) (pc' := 14) rfl rfl rfl ?_
    refine x_iconst (i := 8) (pc' := 15) rfl rfl ?_
    refine x_iconst (i := 9) (pc' := 16) rfl rfl ?_
    refine m_callS (i := 10) (pc' := 19) (av := [_, _, _]) (rest := []) rfl rfl (by decide) lX3_28 rfl rfl (Nat.le_of_ble_eq_true rfl) (Nat.le_refl _) (Nat.le_refl _) (s_X11_isWithin h5 (by omega) (by omega) ?_)
    dsimp only [psh]
    refine x_ifne (i := 11) (pc' := 22) (tgt := 25) rfl rfl (by decide) (by (repeat' split) <;> omega) (fun c2 => ?_) (fun c2 => ?_)
    · skip
      refine x_aload_n (i := 14) (pc' := 26) rfl rfl rfl rfl ?_
      refine x_iload_n (i := 15) (pc' := 27) rfl rfl rfl rfl ?_
      refine x_iload_n (i := 16) (pc' := 28) rfl rfl rfl rfl ?_
      refine x_iload_n (i := 17) (pc' := 29) rfl rfl rfl rfl ?_
      refine x_iload (i := 18) (pc' := 31) rfl rfl rfl ?_
      refine m_callV (i := 19) (pc' := 34) (av := [_, _, _, _]) (rest := []) rfl rfl (by decide) lX3_40 (sh2 G) rfl rfl rfl rfl rfl (Nat.le_of_ble_eq_true rfl) (Nat.le_refl _) (Nat.le_refl _) (s_X3_ask ?_)
      dsimp only [psh]
      refine x_aload_n (i := 20) (pc' := 35) rfl rfl rfl rfl ?_
      refine x_bipush (i := 21) (pc' := 37) rfl rfl (by decide) ?_
      refine x_iconst (i := 22) (pc' := 38) rfl rfl ?_
      refine x_iload (i := 23) (pc' := 40) rfl rfl rfl ?_
      refine m_callV (i := 24) (pc' := 43) (av := [_, _, _]) (rest := []) rfl rfl (by decide) lX3_32 (sh2 G) rfl rfl rfl rfl rfl (Nat.le_of_ble_eq_true rfl) (Nat.le_refl _) (Nat.le_refl _) (s_X3_setTrait (by omega) (by omega) ?_)
      dsimp only [psh]
      refine x_aload_n (i := 25) (pc' := 44) rfl rfl rfl rfl ?_
      refine m_callV (i := 26) (pc' := 47) (av := []) (rest := []) rfl rfl (by decide) lX3_44 (sh2 G) rfl rfl rfl rfl rfl (Nat.le_of_ble_eq_true rfl) (Nat.le_refl _) (Nat.le_refl _) (s_X3_appendAsked ((hM.ask h1 h2 h3 h4).st h5) hn ?_)
      dsimp only [psh]
      exact m_ireturn (i := 27) rfl rfl (by unfold adr adx at hQ; (repeat' split at hQ) <;> first | exact hQ | (exfalso; omega))
    · skip
      refine x_bipush (i := 12) (pc' := 24) rfl rfl (by decide) ?_
      exact m_ireturn (i := 13) rfl rfl (by unfold adr adx at hQ; (repeat' split at hQ) <;> first | exact hQ | (exfalso; omega))
theorem s_X3_change {G : GG} {m : Mem} {Q : Option Value → Mem → Prop} {k w v : Int} (hM : MR m) (hn : CN m) (h1 : rg k) (h2 : rg w) (h3 : rg v) (hQ : Q (some (.int (J (chr m k w v)))) (chx m k w v)) : CM G 3 mX3_change [.ref (G.2.2.2 2), .int (J (k)), .int (J (w)), .int (J (v))] m Q := by
  refine CM.of dkX3_change (Or.inl rfl) [some _, some _, some _, some _, none, none] rfl (Nat.le_of_ble_eq_true rfl) ?_
  have hn0 := hn.1; have hn1 := hn.2
  have hb := bp_01 (he (stm m 3 (k * 5 + w) v) k)
  refine x_iload_n (i := 0) (pc' := 1) rfl rfl rfl rfl ?_
  refine x_iconst (i := 1) (pc' := 2) rfl rfl ?_
  refine x_icmpne (i := 2) (pc' := 5) (tgt := 9) rfl rfl (by decide) (by (repeat' split) <;> first | omega | exact hM _ _) (by (repeat' split) <;> first | omega | exact hM _ _) (fun c1 => ?_) (fun c1 => ?_)
  · skip
    refine x_bipush (i := 5) (pc' := 11) rfl rfl (by decide) ?_
    refine x_istore (L' := [some _, some _, some _, some _, some _, none]) (i := 6) (pc' := 13) rfl rfl rfl (by decide) rfl ?_
    refine x_aload_n (i := 7) (pc' := 14) rfl rfl rfl rfl ?_
    refine x_iload_n (i := 8) (pc' := 15) rfl rfl rfl rfl ?_
    refine m_callV (i := 9) (pc' := 18) (av := [_]) (rest := []) rfl rfl (by decide) lX3_56 (sh2 G) rfl rfl rfl rfl rfl (Nat.le_of_ble_eq_true rfl) (Nat.le_refl _) (Nat.le_refl _) (s_X3_holds hn (by omega) ?_)
    dsimp only [psh]
    refine x_ifeq (i := 10) (pc' := 21) (tgt := 40) rfl rfl (by decide) (by (repeat' split) <;> first | omega | exact hM _ _) (fun c2 => ?_) (fun c2 => ?_)
    · skip
      refine x_bipush (i := 21) (pc' := 42) rfl rfl (by decide) ?_
      exact m_ireturn (i := 22) rfl rfl (by unfold chr chx at hQ; (repeat' split at hQ) <;> first | exact hQ | (exfalso; omega) | (rw [stm_back]; exact hQ))
    · skip
      refine x_iload_n (i := 11) (pc' := 22) rfl rfl rfl rfl ?_
      refine x_iconst (i := 12) (pc' := 23) rfl rfl ?_
      refine x_iconst (i := 13) (pc' := 24) rfl rfl ?_
      refine m_callS (i := 14) (pc' := 27) (av := [_, _, _]) (rest := []) rfl rfl (by decide) lX3_28 rfl rfl (Nat.le_of_ble_eq_true rfl) (Nat.le_refl _) (Nat.le_refl _) (s_X11_isWithin (by omega) (by omega) (by omega) ?_)
      dsimp only [psh]
      refine x_ifeq (i := 15) (pc' := 30) (tgt := 40) rfl rfl (by decide) (by (repeat' split) <;> first | omega | exact hM _ _) (fun c3 => ?_) (fun c3 => ?_)
      · skip
        refine x_bipush (i := 21) (pc' := 42) rfl rfl (by decide) ?_
        exact m_ireturn (i := 22) rfl rfl (by unfold chr chx at hQ; (repeat' split at hQ) <;> first | exact hQ | (exfalso; omega) | (rw [stm_back]; exact hQ))
      · skip
        refine x_iload_n (i := 16) (pc' := 31) rfl rfl rfl rfl ?_
        refine x_iconst (i := 17) (pc' := 32) rfl rfl ?_
        refine x_iload (i := 18) (pc' := 34) rfl rfl rfl ?_
        refine m_callS (i := 19) (pc' := 37) (av := [_, _, _]) (rest := []) rfl rfl (by decide) lX3_28 rfl rfl (Nat.le_of_ble_eq_true rfl) (Nat.le_refl _) (Nat.le_refl _) (s_X11_isWithin (by omega) (by omega) (by omega) ?_)
        dsimp only [psh]
        refine x_ifne (i := 20) (pc' := 40) (tgt := 43) rfl rfl (by decide) (by (repeat' split) <;> first | omega | exact hM _ _) (fun c4 => ?_) (fun c4 => ?_)
        · skip
          refine x_aload_n (i := 23) (pc' := 44) rfl rfl rfl rfl ?_
          refine x_iload_n (i := 24) (pc' := 45) rfl rfl rfl rfl ?_
          refine x_iload_n (i := 25) (pc' := 46) rfl rfl rfl rfl ?_
          refine m_callV (i := 26) (pc' := 49) (av := [_, _]) (rest := []) rfl rfl (by decide) lX3_59 (sh2 G) rfl rfl rfl rfl rfl (Nat.le_of_ble_eq_true rfl) (Nat.le_refl _) (Nat.le_refl _) (s_X3_trait (by (repeat' split at *) <;> omega) (by (repeat' split at *) <;> omega) ?_)
          dsimp only [psh]
          refine x_istore (L' := [some _, some _, some _, some _, some _, some _]) (i := 27) (pc' := 51) rfl rfl rfl (by decide) rfl ?_
          refine x_aload_n (i := 28) (pc' := 52) rfl rfl rfl rfl ?_
          refine x_iload_n (i := 29) (pc' := 53) rfl rfl rfl rfl ?_
          refine x_iload_n (i := 30) (pc' := 54) rfl rfl rfl rfl ?_
          refine x_iload_n (i := 31) (pc' := 55) rfl rfl rfl rfl ?_
          refine m_callV (i := 32) (pc' := 58) (av := [_, _, _]) (rest := []) rfl rfl (by decide) lX3_32 (sh2 G) rfl rfl rfl rfl rfl (Nat.le_of_ble_eq_true rfl) (Nat.le_refl _) (Nat.le_refl _) (s_X3_setTrait (by (repeat' split at *) <;> omega) (by (repeat' split at *) <;> omega) ?_)
          dsimp only [psh]
          refine x_aload_n (i := 33) (pc' := 59) rfl rfl rfl rfl ?_
          refine x_iload_n (i := 34) (pc' := 60) rfl rfl rfl rfl ?_
          refine m_callV (i := 35) (pc' := 63) (av := [_]) (rest := []) rfl rfl (by decide) lX3_48 (sh2 G) rfl rfl rfl rfl rfl (Nat.le_of_ble_eq_true rfl) (Nat.le_refl _) (Nat.le_refl _) (s_X3_hasEqual (hM.st h3) hn (by (repeat' split at *) <;> omega) ?_)
          dsimp only [psh]
          refine x_ifeq (i := 36) (pc' := 66) (tgt := 77) rfl rfl (by decide) (by (repeat' split) <;> first | omega | exact hM _ _) (fun c5 => ?_) (fun c5 => ?_)
          · skip
            refine x_iload (i := 44) (pc' := 79) rfl rfl rfl ?_
            exact m_ireturn (i := 45) rfl rfl (by unfold chr chx at hQ; (repeat' split at hQ) <;> first | exact hQ | (exfalso; omega) | (rw [stm_back]; exact hQ))
          · skip
            refine x_aload_n (i := 37) (pc' := 67) rfl rfl rfl rfl ?_
            refine x_iload_n (i := 38) (pc' := 68) rfl rfl rfl rfl ?_
            refine x_iload_n (i := 39) (pc' := 69) rfl rfl rfl rfl ?_
            refine x_iload (i := 40) (pc' := 71) rfl rfl rfl ?_
            refine m_callV (i := 41) (pc' := 74) (av := [_, _, _]) (rest := []) rfl rfl (by decide) lX3_32 (sh2 G) rfl rfl rfl rfl rfl (Nat.le_of_ble_eq_true rfl) (Nat.le_refl _) (Nat.le_refl _) (s_X3_setTrait (by (repeat' split at *) <;> omega) (by (repeat' split at *) <;> omega) ?_)
            dsimp only [psh]
            refine x_bipush (i := 42) (pc' := 76) rfl rfl (by decide) ?_
            exact m_ireturn (i := 43) rfl rfl (by unfold chr chx at hQ; (repeat' split at hQ) <;> first | exact hQ | (exfalso; omega) | (rw [stm_back]; exact hQ))
        · skip
          refine x_bipush (i := 21) (pc' := 42) rfl rfl (by decide) ?_
          exact m_ireturn (i := 22) rfl rfl (by unfold chr chx at hQ; (repeat' split at hQ) <;> first | exact hQ | (exfalso; omega) | (rw [stm_back]; exact hQ))
  · skip
    refine x_iconst (i := 3) (pc' := 6) rfl rfl ?_
    refine x_goto (i := 4) (pc' := 11) rfl (by decide) ?_
    refine x_istore (L' := [some _, some _, some _, some _, some _, none]) (i := 6) (pc' := 13) rfl rfl rfl (by decide) rfl ?_
    refine x_aload_n (i := 7) (pc' := 14) rfl rfl rfl rfl ?_
    refine x_iload_n (i := 8) (pc' := 15) rfl rfl rfl rfl ?_
    refine m_callV (i := 9) (pc' := 18) (av := [_]) (rest := []) rfl rfl (by decide) lX3_56 (sh2 G) rfl rfl rfl rfl rfl (Nat.le_of_ble_eq_true rfl) (Nat.le_refl _) (Nat.le_refl _) (s_X3_holds hn (by omega) ?_)
    dsimp only [psh]
    refine x_ifeq (i := 10) (pc' := 21) (tgt := 40) rfl rfl (by decide) (by (repeat' split) <;> first | omega | exact hM _ _) (fun c6 => ?_) (fun c6 => ?_)
    · skip
      refine x_bipush (i := 21) (pc' := 42) rfl rfl (by decide) ?_
      exact m_ireturn (i := 22) rfl rfl (by unfold chr chx at hQ; (repeat' split at hQ) <;> first | exact hQ | (exfalso; omega) | (rw [stm_back]; exact hQ))
    · skip
      refine x_iload_n (i := 11) (pc' := 22) rfl rfl rfl rfl ?_
      refine x_iconst (i := 12) (pc' := 23) rfl rfl ?_
      refine x_iconst (i := 13) (pc' := 24) rfl rfl ?_
      refine m_callS (i := 14) (pc' := 27) (av := [_, _, _]) (rest := []) rfl rfl (by decide) lX3_28 rfl rfl (Nat.le_of_ble_eq_true rfl) (Nat.le_refl _) (Nat.le_refl _) (s_X11_isWithin (by omega) (by omega) (by omega) ?_)
      dsimp only [psh]
      refine x_ifeq (i := 15) (pc' := 30) (tgt := 40) rfl rfl (by decide) (by (repeat' split) <;> first | omega | exact hM _ _) (fun c7 => ?_) (fun c7 => ?_)
      · skip
        refine x_bipush (i := 21) (pc' := 42) rfl rfl (by decide) ?_
        exact m_ireturn (i := 22) rfl rfl (by unfold chr chx at hQ; (repeat' split at hQ) <;> first | exact hQ | (exfalso; omega) | (rw [stm_back]; exact hQ))
      · skip
        refine x_iload_n (i := 16) (pc' := 31) rfl rfl rfl rfl ?_
        refine x_iconst (i := 17) (pc' := 32) rfl rfl ?_
        refine x_iload (i := 18) (pc' := 34) rfl rfl rfl ?_
        refine m_callS (i := 19) (pc' := 37) (av := [_, _, _]) (rest := []) rfl rfl (by decide) lX3_28 rfl rfl (Nat.le_of_ble_eq_true rfl) (Nat.le_refl _) (Nat.le_refl _) (s_X11_isWithin (by omega) (by omega) (by omega) ?_)
        dsimp only [psh]
        refine x_ifne (i := 20) (pc' := 40) (tgt := 43) rfl rfl (by decide) (by (repeat' split) <;> first | omega | exact hM _ _) (fun c8 => ?_) (fun c8 => ?_)
        · skip
          refine x_aload_n (i := 23) (pc' := 44) rfl rfl rfl rfl ?_
          refine x_iload_n (i := 24) (pc' := 45) rfl rfl rfl rfl ?_
          refine x_iload_n (i := 25) (pc' := 46) rfl rfl rfl rfl ?_
          refine m_callV (i := 26) (pc' := 49) (av := [_, _]) (rest := []) rfl rfl (by decide) lX3_59 (sh2 G) rfl rfl rfl rfl rfl (Nat.le_of_ble_eq_true rfl) (Nat.le_refl _) (Nat.le_refl _) (s_X3_trait (by (repeat' split at *) <;> omega) (by (repeat' split at *) <;> omega) ?_)
          dsimp only [psh]
          refine x_istore (L' := [some _, some _, some _, some _, some _, some _]) (i := 27) (pc' := 51) rfl rfl rfl (by decide) rfl ?_
          refine x_aload_n (i := 28) (pc' := 52) rfl rfl rfl rfl ?_
          refine x_iload_n (i := 29) (pc' := 53) rfl rfl rfl rfl ?_
          refine x_iload_n (i := 30) (pc' := 54) rfl rfl rfl rfl ?_
          refine x_iload_n (i := 31) (pc' := 55) rfl rfl rfl rfl ?_
          refine m_callV (i := 32) (pc' := 58) (av := [_, _, _]) (rest := []) rfl rfl (by decide) lX3_32 (sh2 G) rfl rfl rfl rfl rfl (Nat.le_of_ble_eq_true rfl) (Nat.le_refl _) (Nat.le_refl _) (s_X3_setTrait (by (repeat' split at *) <;> omega) (by (repeat' split at *) <;> omega) ?_)
          dsimp only [psh]
          refine x_aload_n (i := 33) (pc' := 59) rfl rfl rfl rfl ?_
          refine x_iload_n (i := 34) (pc' := 60) rfl rfl rfl rfl ?_
          refine m_callV (i := 35) (pc' := 63) (av := [_]) (rest := []) rfl rfl (by decide) lX3_48 (sh2 G) rfl rfl rfl rfl rfl (Nat.le_of_ble_eq_true rfl) (Nat.le_refl _) (Nat.le_refl _) (s_X3_hasEqual (hM.st h3) hn (by (repeat' split at *) <;> omega) ?_)
          dsimp only [psh]
          refine x_ifeq (i := 36) (pc' := 66) (tgt := 77) rfl rfl (by decide) (by (repeat' split) <;> first | omega | exact hM _ _) (fun c9 => ?_) (fun c9 => ?_)
          · skip
            refine x_iload (i := 44) (pc' := 79) rfl rfl rfl ?_
            exact m_ireturn (i := 45) rfl rfl (by unfold chr chx at hQ; (repeat' split at hQ) <;> first | exact hQ | (exfalso; omega) | (rw [stm_back]; exact hQ))
          · skip
            refine x_aload_n (i := 37) (pc' := 67) rfl rfl rfl rfl ?_
            refine x_iload_n (i := 38) (pc' := 68) rfl rfl rfl rfl ?_
            refine x_iload_n (i := 39) (pc' := 69) rfl rfl rfl rfl ?_
            refine x_iload (i := 40) (pc' := 71) rfl rfl rfl ?_
            refine m_callV (i := 41) (pc' := 74) (av := [_, _, _]) (rest := []) rfl rfl (by decide) lX3_32 (sh2 G) rfl rfl rfl rfl rfl (Nat.le_of_ble_eq_true rfl) (Nat.le_refl _) (Nat.le_refl _) (s_X3_setTrait (by (repeat' split at *) <;> omega) (by (repeat' split at *) <;> omega) ?_)
            dsimp only [psh]
            refine x_bipush (i := 42) (pc' := 76) rfl rfl (by decide) ?_
            exact m_ireturn (i := 43) rfl rfl (by unfold chr chx at hQ; (repeat' split at hQ) <;> first | exact hQ | (exfalso; omega) | (rw [stm_back]; exact hQ))
        · skip
          refine x_bipush (i := 21) (pc' := 42) rfl rfl (by decide) ?_
          exact m_ireturn (i := 22) rfl rfl (by unfold chr chx at hQ; (repeat' split at hQ) <;> first | exact hQ | (exfalso; omega) | (rw [stm_back]; exact hQ))
theorem s_X3_remove {G : GG} {m : Mem} {Q : Option Value → Mem → Prop} {k : Int} (hM : MR m) (hn : CN m) (h1 : rg k) (hQ : Q (some (.int (J (if 0 ≤ k ∧ k < m 2 2 then m 2 2 - 1 else -2)))) (if 0 ≤ k ∧ k < m 2 2 then rmm m k else m)) : CM G 2 mX3_remove [.ref (G.2.2.2 2), .int (J (k))] m Q := by
  refine CM.of dkX3_remove (Or.inl rfl) [some _, some _] rfl (Nat.le_of_ble_eq_true rfl) ?_
  have hn0 := hn.1; have hn1 := hn.2
  refine x_aload_n (i := 0) (pc' := 1) rfl rfl rfl rfl ?_
  refine x_iload_n (i := 1) (pc' := 2) rfl rfl rfl rfl ?_
  refine m_callV (i := 2) (pc' := 5) (av := [_]) (rest := []) rfl rfl (by decide) lX3_56 (sh2 G) rfl rfl rfl rfl rfl (Nat.le_of_ble_eq_true rfl) (Nat.le_refl _) (Nat.le_refl _) (s_X3_holds hn (by omega) ?_)
  dsimp only [psh]
  refine x_ifne (i := 3) (pc' := 8) (tgt := 11) rfl rfl (by decide) (by (repeat' split) <;> omega) (fun c1 => ?_) (fun c1 => ?_)
  · skip
    refine x_aload_n (i := 6) (pc' := 12) rfl rfl rfl rfl ?_
    refine m_getf (i := 7) (pc' := 15) rfl rfl flX3_9 (sh2 G) rfl rfl ?_
    refine x_iload_n (i := 8) (pc' := 16) rfl rfl rfl rfl ?_
    refine x_iconst (i := 9) (pc' := 17) rfl rfl ?_
    refine x_iadd (i := 10) (pc' := 18) rfl rfl ?_
    refine x_iconst (i := 11) (pc' := 19) rfl rfl ?_
    refine x_imul (i := 12) (pc' := 20) rfl rfl ?_
    refine x_aload_n (i := 13) (pc' := 21) rfl rfl rfl rfl ?_
    refine m_getf (i := 14) (pc' := 24) rfl rfl flX3_9 (sh2 G) rfl rfl ?_
    refine x_iload_n (i := 15) (pc' := 25) rfl rfl rfl rfl ?_
    refine x_iconst (i := 16) (pc' := 26) rfl rfl ?_
    refine x_imul (i := 17) (pc' := 27) rfl rfl ?_
    refine x_aload_n (i := 18) (pc' := 28) rfl rfl rfl rfl ?_
    refine m_getf (i := 19) (pc' := 31) rfl rfl flX3_18 (sh2 G) rfl rfl ?_
    refine x_iconst (i := 20) (pc' := 32) rfl rfl ?_
    refine x_isub (i := 21) (pc' := 33) rfl rfl ?_
    refine x_iload_n (i := 22) (pc' := 34) rfl rfl rfl rfl ?_
    refine x_isub (i := 23) (pc' := 35) rfl rfl ?_
    refine x_iconst (i := 24) (pc' := 36) rfl rfl ?_
    refine x_imul (i := 25) (pc' := 37) rfl rfl ?_
    refine m_copy (i := 26) (pc' := 40) rfl rfl (by decide) acX3_22 (sh3 G) (sh3 G) (by decide) (by decide) (by (repeat' split at *) <;> first | omega | (show _ ≤ ((85 : Nat) : Int); omega)) (by (repeat' split at *) <;> first | omega | (show _ ≤ ((85 : Nat) : Int); omega)) (by (repeat' split at *) <;> first | omega | (show _ ≤ ((85 : Nat) : Int); omega)) (by (repeat' split at *) <;> first | omega | (show _ ≤ ((85 : Nat) : Int); omega)) (by (repeat' split at *) <;> first | omega | (show _ ≤ ((85 : Nat) : Int); omega)) (Nat.le_of_ble_eq_true rfl) ac_n ac_s ac_i ?_
    refine x_aload_n (i := 27) (pc' := 41) rfl rfl rfl rfl ?_
    refine x_dup (i := 28) (pc' := 42) rfl rfl rfl ?_
    refine m_getf (i := 29) (pc' := 45) rfl rfl flX3_18 (sh2 G) rfl rfl ?_
    refine x_iconst (i := 30) (pc' := 46) rfl rfl ?_
    refine x_isub (i := 31) (pc' := 47) rfl rfl ?_
    refine m_putf (kz := 2) (i := 32) (pc' := 50) rfl rfl flX3_18 (sh2 G) (fun _ => rfl) rfl (Nat.le_of_ble_eq_true rfl) rfl rfl ?_
    refine x_aload_n (i := 33) (pc' := 51) rfl rfl rfl rfl ?_
    refine m_getf (i := 34) (pc' := 54) rfl rfl flX3_18 (sh2 G) rfl rfl ?_
    exact m_ireturn (i := 35) rfl rfl (by (repeat' split at hQ) <;> first | exact hQ | (exfalso; omega) | (rw [← rmm_n m k] at hQ; exact hQ))
  · skip
    refine x_bipush (i := 4) (pc' := 10) rfl rfl (by decide) ?_
    exact m_ireturn (i := 5) rfl rfl (by (repeat' split at hQ) <;> first | exact hQ | (exfalso; omega) | (rw [← rmm_n m k] at hQ; exact hQ))
theorem s_X3_countOfSort {G : GG} {m : Mem} {Q : Option Value → Mem → Prop} {a : Int} (hM : MR m) (hn : CN m) (ha : rg a) (hQ : Q (some (.int (J (cs m a)))) m) : CM G 1 mX3_countOfSort [.ref (G.2.2.2 2), .int (J (a))] m Q := by
  refine CM.of dkX3_countOfSort (Or.inl rfl) [some _, some _, none, none] rfl (Nat.le_of_ble_eq_true rfl) ?_
  have hn0 := hn.1; have hn1 := hn.2
  refine x_iconst (i := 0) (pc' := 1) rfl rfl ?_
  refine x_istore_n (L' := [some _, some _, some _, none]) (i := 1) (pc' := 2) rfl rfl rfl rfl (by decide) rfl ?_
  refine x_iconst (i := 2) (pc' := 3) rfl rfl ?_
  refine x_istore_n (L' := [some _, some _, some _, some _]) (i := 3) (pc' := 4) rfl rfl rfl rfl (by decide) rfl ?_
  skip
  refine up_ind0 (P := fun (j : Int) (x : Int) => BW G 1 mX3_countOfSort Q 4 [some (.ref (G.2.2.2 2)), some (.int (J (a))), some (.int (J (x))), some (.int (J (j)))] [] m) (fun (j : Int) (x : Int) => if m 3 (j * 5 + 4) = a then x + 1 else x) (m 2 2) (0) (0) (by omega) (fun j x hj0 hj hk => ?_) ?_
  · skip
    refine x_iload_n (i := 4) (pc' := 5) rfl rfl rfl rfl ?_
    refine x_aload_n (i := 5) (pc' := 6) rfl rfl rfl rfl ?_
    refine m_getf (i := 6) (pc' := 9) rfl rfl flX3_18 (sh2 G) rfl rfl ?_
    refine x_icmpge (i := 7) (pc' := 12) (tgt := 31) rfl rfl (by decide) (by first | omega | exact hM _ _) (by first | omega | exact hM _ _) (fun c1 => by exfalso; omega) (fun c1 => ?_)
    refine x_aload_n (i := 8) (pc' := 13) rfl rfl rfl rfl ?_
    refine x_iload_n (i := 9) (pc' := 14) rfl rfl rfl rfl ?_
    refine x_iconst (i := 10) (pc' := 15) rfl rfl ?_
    refine m_callV (i := 11) (pc' := 18) (av := [_, _]) (rest := []) rfl rfl (by decide) lX3_59 (sh2 G) rfl rfl rfl rfl rfl (Nat.le_of_ble_eq_true rfl) (Nat.le_refl _) (Nat.le_refl _) (s_X3_trait (by omega) (by omega) ?_)
    dsimp only [psh]
    refine x_iload_n (i := 12) (pc' := 19) rfl rfl rfl rfl ?_
    refine x_icmpne (i := 13) (pc' := 22) (tgt := 25) rfl rfl (by decide) (by first | omega | exact hM _ _) (by first | omega | exact hM _ _) (fun c2 => ?_) (fun c2 => ?_)
    · first | (exfalso; omega; done) | skip
      all_goals (
        refine x_iinc (L' := [some _, some _, some _, some _]) (i := 15) (pc' := 28) rfl rfl rfl rfl (by decide) rfl ?_
        refine x_goto (i := 16) (pc' := 4) rfl (by decide) ?_
        (first | exact hk | (refine AW.le ?_ hk; simp [lvle]; done) | ((repeat' split at hk) <;> first | exact hk | (refine AW.le ?_ hk; simp [lvle]; done) | (exfalso; omega)))
        skip)
    · first | (exfalso; omega; done) | skip
      all_goals (
        refine x_iinc (L' := [some _, some _, some _, some _]) (i := 14) (pc' := 25) rfl rfl rfl rfl (by decide) rfl ?_
        refine x_iinc (L' := [some _, some _, some _, some _]) (i := 15) (pc' := 28) rfl rfl rfl rfl (by decide) rfl ?_
        refine x_goto (i := 16) (pc' := 4) rfl (by decide) ?_
        (first | exact hk | (refine AW.le ?_ hk; simp [lvle]; done) | ((repeat' split at hk) <;> first | exact hk | (refine AW.le ?_ hk; simp [lvle]; done) | (exfalso; omega)))
        skip)
  · skip
    refine x_iload_n (i := 4) (pc' := 5) rfl rfl rfl rfl ?_
    refine x_aload_n (i := 5) (pc' := 6) rfl rfl rfl rfl ?_
    refine m_getf (i := 6) (pc' := 9) rfl rfl flX3_18 (sh2 G) rfl rfl ?_
    refine x_icmpge (i := 7) (pc' := 12) (tgt := 31) rfl rfl (by decide) ⟨by omega, by omega⟩ ⟨by omega, by omega⟩ (fun c1 => ?_) (fun c1 => by exfalso; omega)
    refine x_iload_n (i := 17) (pc' := 32) rfl rfl rfl rfl ?_
    exact m_ireturn (i := 18) rfl rfl (by rw [Int.sub_zero]; exact hQ)
