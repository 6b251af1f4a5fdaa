def SN (m : Mem) : Prop := 0 ≤ m 5 1 ∧ m 5 1 ≤ 16
def co (m : Mem) (k : Int) : Int := it (fun i x => if m 6 (i * 3 + 0) = k then x + 1 else x) 0 (m 5 1).toNat 0
def rnm (m : Mem) (k : Int) : Mem := it (fun i (x : Mem) => if k < x 6 (i * 3) then stm x 6 (i * 3) (x 6 (i * 3) - 1) else x) 0 (m 5 1).toNat m
def putm (m : Mem) (i k f t : Int) : Mem := stm (stm (stm m 6 (i * 3) k) 6 (i * 3 + 1) f) 6 (i * 3 + 2) t
def apw (m : Mem) (k f t : Int) : Mem := stm (putm m (m 5 1) k f t) 5 1 (m 5 1 + 1)
def mvm (m : Mem) (a b n : Int) : Mem := sr m 6 (cpr (m 6) (m 6) (a * 3) (b * 3) (n * 3))
def rmw (m : Mem) (i : Int) : Mem := stm (mvm m (i + 1) i (m 5 1 - 1 - i)) 5 1 (m 5 1 - 1)
def shf (m : Mem) (i j : Int) : Mem := putm (if i < j then mvm m (i + 1) i (j - i) else mvm m j (j + 1) (i - j)) j (m 6 (i * 3 + 0)) (m 6 (i * 3 + 1)) (m 6 (i * 3 + 2))
theorem apw_n (m : Mem) (k f t : Int) : apw m k f t 5 1 = m 5 1 + 1 := by simp [apw, putm, stm, sr, ur]
theorem rmw_n (m : Mem) (i : Int) : rmw m i 5 1 = m 5 1 - 1 := by simp [rmw, mvm, stm, sr, ur]
def cps (m : Mem) (d s : Nat) : Mem :=
  let m1 := sr m (d + 2) (cpr (m (s + 2)) (m (d + 2)) 0 0 85)
  let m2 := sr m1 (d + 3) (cpr (m1 (s + 3)) (m1 (d + 3)) 0 0 4)
  let m3 := stm m2 (d + 1) 2 (m2 (s + 1) 2)
  let m4 := sr m3 (d + 5) (cpr (m3 (s + 5)) (m3 (d + 5)) 0 0 48)
  let m5 := stm m4 (d + 4) 1 (m4 (s + 4) 1)
  sr m5 (d + 6) (cpr (m5 (s + 6)) (m5 (d + 6)) 0 0 6)
theorem s_X8_cell {G : GG} {m : Mem} {Q : Option Value → Mem → Prop} {a b : Int} (hs : SN m) (ha : 0 ≤ a ∧ a < m 5 1) (hb : 0 ≤ b ∧ b ≤ 2) (hQ : Q (some (.int (J (m 6 (a * 3 + b))))) m) : CM G 0 mX8_cell [.ref (G.2.2.2 5), .int (J (a)), .int (J (b))] m Q := by
  refine CM.of dkX8_cell (Or.inl rfl) [some _, some _, some _] rfl (Nat.le_of_ble_eq_true rfl) ?_
  have hs0 := hs.1; have hs1 := hs.2
  refine x_iload_n (i := 0) (pc' := 1) rfl rfl rfl rfl ?_
  refine x_iflt (i := 1) (pc' := 4) (tgt := 25) rfl rfl (by decide) ⟨by omega, by omega⟩ (fun c1 => ?_) (fun c1 => ?_)
  · first | (exfalso; omega; done) | skip
    all_goals (
      refine x_iconst (i := 15) (pc' := 26) rfl rfl ?_
      exact m_ireturn (i := 16) rfl rfl (hQ)
      skip)
  · first | (exfalso; omega; done) | skip
    all_goals (
      refine x_iload_n (i := 2) (pc' := 5) rfl rfl rfl rfl ?_
      refine x_aload_n (i := 3) (pc' := 6) rfl rfl rfl rfl ?_
      refine m_getf (i := 4) (pc' := 9) rfl rfl flX8_15 (sh5 G) rfl rfl ?_
      refine x_icmpge (i := 5) (pc' := 12) (tgt := 25) rfl rfl (by decide) ⟨by omega, by omega⟩ ⟨by omega, by omega⟩ (fun c2 => ?_) (fun c2 => ?_)
      · first | (exfalso; omega; done) | skip
        all_goals (
          refine x_iconst (i := 15) (pc' := 26) rfl rfl ?_
          exact m_ireturn (i := 16) rfl rfl (hQ)
          skip)
      · first | (exfalso; omega; done) | skip
        all_goals (
          refine x_aload_n (i := 6) (pc' := 13) rfl rfl rfl rfl ?_
          refine m_getf (i := 7) (pc' := 16) rfl rfl flX8_11 (sh5 G) rfl rfl ?_
          refine x_iload_n (i := 8) (pc' := 17) rfl rfl rfl rfl ?_
          refine x_iconst (i := 9) (pc' := 18) rfl rfl ?_
          refine x_imul (i := 10) (pc' := 19) rfl rfl ?_
          refine x_iload_n (i := 11) (pc' := 20) rfl rfl rfl rfl ?_
          refine x_iadd (i := 12) (pc' := 21) rfl rfl ?_
          refine m_iald (i := 13) (pc' := 22) rfl rfl (sh6 G) (by decide) ⟨by omega, by omega⟩ ?_
          refine x_goto (i := 14) (pc' := 26) rfl (by decide) ?_
          exact m_ireturn (i := 16) rfl rfl (hQ)
          skip)
      skip)
theorem s_X8_signIn {G : GG} {m : Mem} {Q : Option Value → Mem → Prop} {a : Int} (hs : SN m) (ha : 0 ≤ a ∧ a < m 5 1) (hQ : Q (some (.int (J (m 6 (a * 3 + 0))))) m) : CM G 1 mX8_signIn [.ref (G.2.2.2 5), .int (J (a))] m Q := by
  refine CM.of dkX8_signIn (Or.inl rfl) [some _, some _] rfl (Nat.le_of_ble_eq_true rfl) ?_
  have hs0 := hs.1; have hs1 := hs.2
  refine x_aload_n (i := 0) (pc' := 1) rfl rfl rfl rfl ?_
  refine x_iload_n (i := 1) (pc' := 2) rfl rfl rfl rfl ?_
  refine x_iconst (i := 2) (pc' := 3) rfl rfl ?_
  refine m_callV (i := 3) (pc' := 6) (av := [_, _]) (rest := []) rfl rfl (by decide) lX8_29 (sh5 G) rfl rfl rfl rfl rfl (Nat.le_of_ble_eq_true rfl) (Nat.le_refl _) (Nat.le_refl _) (s_X8_cell hs (by omega) (by omega) ?_)
  dsimp only [psh]
  exact m_ireturn (i := 4) rfl rfl (hQ)
theorem s_X8_from {G : GG} {m : Mem} {Q : Option Value → Mem → Prop} {a : Int} (hs : SN m) (ha : 0 ≤ a ∧ a < m 5 1) (hQ : Q (some (.int (J (m 6 (a * 3 + 1))))) m) : CM G 1 mX8_from [.ref (G.2.2.2 5), .int (J (a))] m Q := by
  refine CM.of dkX8_from (Or.inl rfl) [some _, some _] rfl (Nat.le_of_ble_eq_true rfl) ?_
  have hs0 := hs.1; have hs1 := hs.2
  refine x_aload_n (i := 0) (pc' := 1) rfl rfl rfl rfl ?_
  refine x_iload_n (i := 1) (pc' := 2) rfl rfl rfl rfl ?_
  refine x_iconst (i := 2) (pc' := 3) rfl rfl ?_
  refine m_callV (i := 3) (pc' := 6) (av := [_, _]) (rest := []) rfl rfl (by decide) lX8_29 (sh5 G) rfl rfl rfl rfl rfl (Nat.le_of_ble_eq_true rfl) (Nat.le_refl _) (Nat.le_refl _) (s_X8_cell hs (by omega) (by omega) ?_)
  dsimp only [psh]
  exact m_ireturn (i := 4) rfl rfl (hQ)
theorem s_X8_to {G : GG} {m : Mem} {Q : Option Value → Mem → Prop} {a : Int} (hs : SN m) (ha : 0 ≤ a ∧ a < m 5 1) (hQ : Q (some (.int (J (m 6 (a * 3 + 2))))) m) : CM G 1 mX8_to [.ref (G.2.2.2 5), .int (J (a))] m Q := by
  refine CM.of dkX8_to (Or.inl rfl) [some _, some _] rfl (Nat.le_of_ble_eq_true rfl) ?_
  have hs0 := hs.1; have hs1 := hs.2
  refine x_aload_n (i := 0) (pc' := 1) rfl rfl rfl rfl ?_
  refine x_iload_n (i := 1) (pc' := 2) rfl rfl rfl rfl ?_
  refine x_iconst (i := 2) (pc' := 3) rfl rfl ?_
  refine m_callV (i := 3) (pc' := 6) (av := [_, _]) (rest := []) rfl rfl (by decide) lX8_29 (sh5 G) rfl rfl rfl rfl rfl (Nat.le_of_ble_eq_true rfl) (Nat.le_refl _) (Nat.le_refl _) (s_X8_cell hs (by omega) (by omega) ?_)
  dsimp only [psh]
  exact m_ireturn (i := 4) rfl rfl (hQ)
theorem s_X8_holds {G : GG} {m : Mem} {Q : Option Value → Mem → Prop} {a : Int} (hs : SN m) (ha : rg a) (hQ : Q (some (.int (J (if 0 ≤ a ∧ a < m 5 1 then 1 else 0)))) m) : CM G 1 mX8_holds [.ref (G.2.2.2 5), .int (J (a))] m Q := by
  refine CM.of dkX8_holds (Or.inl rfl) [some _, some _] rfl (Nat.le_of_ble_eq_true rfl) ?_
  have hs0 := hs.1; have hs1 := hs.2
  refine x_iload_n (i := 0) (pc' := 1) rfl rfl rfl rfl ?_
  refine x_iconst (i := 1) (pc' := 2) rfl rfl ?_
  refine x_aload_n (i := 2) (pc' := 3) rfl rfl rfl rfl ?_
  refine m_getf (i := 3) (pc' := 6) rfl rfl flX8_15 (sh5 G) rfl rfl ?_
  refine x_iconst (i := 4) (pc' := 7) rfl rfl ?_
  refine x_isub (i := 5) (pc' := 8) rfl rfl ?_
  refine m_callS (i := 6) (pc' := 11) (av := [_, _, _]) (rest := []) rfl rfl (by decide) lX8_25 rfl rfl (Nat.le_of_ble_eq_true rfl) (Nat.le_refl _) (Nat.le_refl _) (s_X11_isWithin (by omega) (by omega) (by omega) ?_)
  dsimp only [psh]
  exact m_zreturn (i := 7) rfl rfl (by split <;> omega) (by (repeat' split at hQ) <;> (repeat' split) <;> first | exact hQ | (exfalso; omega))
theorem s_X8_countOf {G : GG} {m : Mem} {Q : Option Value → Mem → Prop} {a : Int} (hM : MR m) (hs : SN m) (ha : rg a) (hQ : Q (some (.int (J (co m a)))) m) : CM G 2 mX8_countOf [.ref (G.2.2.2 5), .int (J (a))] m Q := by
  refine CM.of dkX8_countOf (Or.inl rfl) [some _, some _, none, none] rfl (Nat.le_of_ble_eq_true rfl) ?_
  have hs0 := hs.1; have hs1 := hs.2
  refine x_iconst (i := 0) (pc' := 1) rfl rfl ?_
  refine x_istore_n (L' := [some _, some _, some _, none]) (i := 1) (pc' := 2) rfl rfl rfl rfl (by decide) rfl ?_
  refine x_iconst (i := 2) (pc' := 3) rfl rfl ?_
  refine x_istore_n (L' := [some _, some _, some _, some _]) (i := 3) (pc' := 4) rfl rfl rfl rfl (by decide) rfl ?_
  skip
  refine up_ind0 (P := fun (j : Int) (x : Int) => BW G 2 mX8_countOf Q 4 [some (.ref (G.2.2.2 5)), some (.int (J (a))), some (.int (J (x))), some (.int (J (j)))] [] m) (fun (j : Int) (x : Int) => if m 6 (j * 3 + 0) = a then x + 1 else x) (m 5 1) (0) (0) (by omega) (fun j x hj0 hj hk => ?_) ?_
  · skip
    refine x_iload_n (i := 4) (pc' := 5) rfl rfl rfl rfl ?_
    refine x_aload_n (i := 5) (pc' := 6) rfl rfl rfl rfl ?_
    refine m_getf (i := 6) (pc' := 9) rfl rfl flX8_15 (sh5 G) rfl rfl ?_
    refine x_icmpge (i := 7) (pc' := 12) (tgt := 30) rfl rfl (by decide) (by first | omega | exact hM _ _) (by first | omega | exact hM _ _) (fun c1 => by exfalso; omega) (fun c1 => ?_)
    refine x_aload_n (i := 8) (pc' := 13) rfl rfl rfl rfl ?_
    refine x_iload_n (i := 9) (pc' := 14) rfl rfl rfl rfl ?_
    refine m_callV (i := 10) (pc' := 17) (av := [_]) (rest := []) rfl rfl (by decide) lX8_33 (sh5 G) rfl rfl rfl rfl rfl (Nat.le_of_ble_eq_true rfl) (Nat.le_refl _) (Nat.le_refl _) (s_X8_signIn hs (by omega) ?_)
    dsimp only [psh]
    refine x_iload_n (i := 11) (pc' := 18) rfl rfl rfl rfl ?_
    refine x_icmpne (i := 12) (pc' := 21) (tgt := 24) rfl rfl (by decide) (by first | omega | exact hM _ _) (by first | omega | exact hM _ _) (fun c2 => ?_) (fun c2 => ?_)
    · first | (exfalso; omega; done) | skip
      all_goals (
        refine x_iinc (L' := [some _, some _, some _, some _]) (i := 14) (pc' := 27) rfl rfl rfl rfl (by decide) rfl ?_
        refine x_goto (i := 15) (pc' := 4) rfl (by decide) ?_
        (first | exact hk | (refine AW.le ?_ hk; simp [lvle]; done) | ((repeat' split at hk) <;> first | exact hk | (refine AW.le ?_ hk; simp [lvle]; done) | (exfalso; omega)))
        skip)
    · first | (exfalso; omega; done) | skip
      all_goals (
        refine x_iinc (L' := [some _, some _, some _, some _]) (i := 13) (pc' := 24) rfl rfl rfl rfl (by decide) rfl ?_
        refine x_iinc (L' := [some _, some _, some _, some _]) (i := 14) (pc' := 27) rfl rfl rfl rfl (by decide) rfl ?_
        refine x_goto (i := 15) (pc' := 4) rfl (by decide) ?_
        (first | exact hk | (refine AW.le ?_ hk; simp [lvle]; done) | ((repeat' split at hk) <;> first | exact hk | (refine AW.le ?_ hk; simp [lvle]; done) | (exfalso; omega)))
        skip)
  · skip
    refine x_iload_n (i := 4) (pc' := 5) rfl rfl rfl rfl ?_
    refine x_aload_n (i := 5) (pc' := 6) rfl rfl rfl rfl ?_
    refine m_getf (i := 6) (pc' := 9) rfl rfl flX8_15 (sh5 G) rfl rfl ?_
    refine x_icmpge (i := 7) (pc' := 12) (tgt := 30) rfl rfl (by decide) ⟨by omega, by omega⟩ ⟨by omega, by omega⟩ (fun c1 => ?_) (fun c1 => by exfalso; omega)
    refine x_iload_n (i := 16) (pc' := 31) rfl rfl rfl rfl ?_
    exact m_ireturn (i := 17) rfl rfl (by rw [Int.sub_zero]; exact hQ)
theorem s_X8_renumberAbove {G : GG} {m : Mem} {Q : Option Value → Mem → Prop} {a : Int} (hM : MR m) (hs : SN m) (ha : rg a) (hlo : ∀ i, 0 ≤ i → i < m 5 1 → 0 ≤ m 6 (i * 3)) (hQ : Q none (rnm m a)) : CM G 0 mX8_renumberAbove [.ref (G.2.2.2 5), .int (J (a))] m Q := by
  refine CM.of dkX8_renumberAbove (Or.inl rfl) [some _, some _, none] rfl (Nat.le_of_ble_eq_true rfl) ?_
  have hs0 := hs.1; have hs1 := hs.2
  refine x_iconst (i := 0) (pc' := 1) rfl rfl ?_
  refine x_istore_n (L' := [some _, some _, some _]) (i := 1) (pc' := 2) rfl rfl rfl rfl (by decide) rfl ?_
  skip
  refine up_ind1 (P := fun (j : Int) (x : Mem) => BW G 0 mX8_renumberAbove Q 2 [some (.ref (G.2.2.2 5)), some (.int (J (a))), some (.int (J (j)))] [] x) (fun (j : Int) (x : Mem) => if a < x 6 (j * 3) then stm x 6 (j * 3) (x 6 (j * 3) - 1) else x) (fun (j : Int) (x : Mem) => x 5 1 = m 5 1 ∧ MR x ∧ ∀ i, j ≤ i → i < m 5 1 → x 6 (i * 3) = m 6 (i * 3)) (m 5 1) (0) (m) (by omega) (⟨rfl, hM, fun _ _ _ => rfl⟩) (fun j x hj0 hj hi => by (have h7 := hlo j (by omega) (by omega); have h8 := hi.2.2 j (by omega) (by omega); have h9 := hi.2.1 6 (j * 3); split <;> first | exact ⟨hi.1, hi.2.1.st (by omega), fun i h1 h2 => by rw [stm_ix _ _ _ (by omega)]; exact hi.2.2 i (by omega) h2⟩ | exact ⟨hi.1, hi.2.1, fun i h1 h2 => hi.2.2 i (by omega) h2⟩)) (fun j x hj0 hj hi hk => ?_) (fun hi => ?_)
  · have hx := hi.1; have hR := hi.2.1
    refine x_iload_n (i := 2) (pc' := 3) rfl rfl rfl rfl ?_
    refine x_aload_n (i := 3) (pc' := 4) rfl rfl rfl rfl ?_
    refine m_getf (i := 4) (pc' := 7) rfl rfl flX8_15 (sh5 G) rfl rfl ?_
    refine x_icmpge (i := 5) (pc' := 10) (tgt := 40) rfl rfl (by decide) (by first | omega | exact hR _ _) (by first | omega | exact hR _ _) (fun c1 => by exfalso; omega) (fun c1 => ?_)
    refine x_aload_n (i := 6) (pc' := 11) rfl rfl rfl rfl ?_
    refine m_getf (i := 7) (pc' := 14) rfl rfl flX8_11 (sh5 G) rfl rfl ?_
    refine x_iload_n (i := 8) (pc' := 15) rfl rfl rfl rfl ?_
    refine x_iconst (i := 9) (pc' := 16) rfl rfl ?_
    refine x_imul (i := 10) (pc' := 17) rfl rfl ?_
    refine m_iald (i := 11) (pc' := 18) rfl rfl (sh6 G) (by decide) ⟨by omega, by omega⟩ ?_
    refine x_iload_n (i := 12) (pc' := 19) rfl rfl rfl rfl ?_
    refine x_icmple (i := 13) (pc' := 22) (tgt := 34) rfl rfl (by decide) (by first | omega | exact hR _ _) (by first | omega | exact hR _ _) (fun c2 => ?_) (fun c2 => ?_)
    · first | (exfalso; omega; done) | skip
      all_goals (
        refine x_iinc (L' := [some _, some _, some _]) (i := 24) (pc' := 37) rfl rfl rfl rfl (by decide) rfl ?_
        refine x_goto (i := 25) (pc' := 2) rfl (by decide) ?_
        (first | exact hk | (refine AW.le ?_ hk; simp [lvle]; done) | ((repeat' split at hk) <;> first | exact hk | (refine AW.le ?_ hk; simp [lvle]; done) | (exfalso; omega)))
        skip)
    · first | (exfalso; omega; done) | skip
      all_goals (
        refine x_aload_n (i := 14) (pc' := 23) rfl rfl rfl rfl ?_
        refine m_getf (i := 15) (pc' := 26) rfl rfl flX8_11 (sh5 G) rfl rfl ?_
        refine x_iload_n (i := 16) (pc' := 27) rfl rfl rfl rfl ?_
        refine x_iconst (i := 17) (pc' := 28) rfl rfl ?_
        refine x_imul (i := 18) (pc' := 29) rfl rfl ?_
        refine x_dup2 (i := 19) (pc' := 30) rfl rfl rfl rfl ?_
        refine m_iald (i := 20) (pc' := 31) rfl rfl (sh6 G) (by decide) ⟨by omega, by omega⟩ ?_
        refine x_iconst (i := 21) (pc' := 32) rfl rfl ?_
        refine x_isub (i := 22) (pc' := 33) rfl rfl ?_
        refine m_iast (i := 23) (pc' := 34) rfl rfl (sh6 G) (by decide) ⟨by omega, by omega⟩ ?_
        refine x_iinc (L' := [some _, some _, some _]) (i := 24) (pc' := 37) rfl rfl rfl rfl (by decide) rfl ?_
        refine x_goto (i := 25) (pc' := 2) rfl (by decide) ?_
        (first | exact hk | (refine AW.le ?_ hk; simp [lvle]; done) | ((repeat' split at hk) <;> first | exact hk | (refine AW.le ?_ hk; simp [lvle]; done) | (exfalso; omega)))
        skip)
  · have hx := hi.1
    refine x_iload_n (i := 2) (pc' := 3) rfl rfl rfl rfl ?_
    refine x_aload_n (i := 3) (pc' := 4) rfl rfl rfl rfl ?_
    refine m_getf (i := 4) (pc' := 7) rfl rfl flX8_15 (sh5 G) rfl rfl ?_
    refine x_icmpge (i := 5) (pc' := 10) (tgt := 40) rfl rfl (by decide) ⟨by omega, by omega⟩ ⟨by omega, by omega⟩ (fun c1 => ?_) (fun c1 => by exfalso; omega)
    exact m_return (i := 26) rfl rfl (by rw [Int.sub_zero]; exact hQ)
theorem s_X8_put {G : GG} {m : Mem} {Q : Option Value → Mem → Prop} {a k f t : Int} (ha : 0 ≤ a ∧ a ≤ 15) (hQ : Q none (putm m a k f t)) : CM G 1 mX8_put [.ref (G.2.2.2 5), .int (J (a)), .int (J (k)), .int (J (f)), .int (J (t))] m Q := by
  refine CM.of dkX8_put (Or.inl rfl) [some _, some _, some _, some _, some _] rfl (Nat.le_of_ble_eq_true rfl) ?_
  have e1 : (if 0 ≤ a ∧ a ≤ 15 then 1 else 0 : Int) = 1 := if_pos ha
  refine x_iload_n (i := 0) (pc' := 1) rfl rfl rfl rfl ?_
  refine x_iconst (i := 1) (pc' := 2) rfl rfl ?_
  refine x_bipush (i := 2) (pc' := 4) rfl rfl (by decide) ?_
  refine m_callS (i := 3) (pc' := 7) (av := [_, _, _]) (rest := []) rfl rfl (by decide) lX8_25 rfl rfl (Nat.le_of_ble_eq_true rfl) (Nat.le_refl _) (Nat.le_refl _) (s_X11_isWithin (by omega) (by omega) (by omega) ?_)
  dsimp only [psh]
  refine x_ifeq (i := 4) (pc' := 10) (tgt := 42) rfl rfl (by decide) ⟨by omega, by omega⟩ (fun c1 => ?_) (fun c1 => ?_)
  · first | (exfalso; omega; done) | skip
    all_goals (
      exact m_return (i := 30) rfl rfl (hQ)
      skip)
  · first | (exfalso; omega; done) | skip
    all_goals (
      refine x_aload_n (i := 5) (pc' := 11) rfl rfl rfl rfl ?_
      refine m_getf (i := 6) (pc' := 14) rfl rfl flX8_11 (sh5 G) rfl rfl ?_
      refine x_iload_n (i := 7) (pc' := 15) rfl rfl rfl rfl ?_
      refine x_iconst (i := 8) (pc' := 16) rfl rfl ?_
      refine x_imul (i := 9) (pc' := 17) rfl rfl ?_
      refine x_iload_n (i := 10) (pc' := 18) rfl rfl rfl rfl ?_
      refine m_iast (i := 11) (pc' := 19) rfl rfl (sh6 G) (by decide) ⟨by omega, by omega⟩ ?_
      refine x_aload_n (i := 12) (pc' := 20) rfl rfl rfl rfl ?_
      refine m_getf (i := 13) (pc' := 23) rfl rfl flX8_11 (sh5 G) rfl rfl ?_
      refine x_iload_n (i := 14) (pc' := 24) rfl rfl rfl rfl ?_
      refine x_iconst (i := 15) (pc' := 25) rfl rfl ?_
      refine x_imul (i := 16) (pc' := 26) rfl rfl ?_
      refine x_iconst (i := 17) (pc' := 27) rfl rfl ?_
      refine x_iadd (i := 18) (pc' := 28) rfl rfl ?_
      refine x_iload_n (i := 19) (pc' := 29) rfl rfl rfl rfl ?_
      refine m_iast (i := 20) (pc' := 30) rfl rfl (sh6 G) (by decide) ⟨by omega, by omega⟩ ?_
      refine x_aload_n (i := 21) (pc' := 31) rfl rfl rfl rfl ?_
      refine m_getf (i := 22) (pc' := 34) rfl rfl flX8_11 (sh5 G) rfl rfl ?_
      refine x_iload_n (i := 23) (pc' := 35) rfl rfl rfl rfl ?_
      refine x_iconst (i := 24) (pc' := 36) rfl rfl ?_
      refine x_imul (i := 25) (pc' := 37) rfl rfl ?_
      refine x_iconst (i := 26) (pc' := 38) rfl rfl ?_
      refine x_iadd (i := 27) (pc' := 39) rfl rfl ?_
      refine x_iload (i := 28) (pc' := 41) rfl rfl rfl ?_
      refine m_iast (i := 29) (pc' := 42) rfl rfl (sh6 G) (by decide) ⟨by omega, by omega⟩ ?_
      exact m_return (i := 30) rfl rfl (hQ)
      skip)
theorem s_X8_append {G : GG} {m : Mem} {Q : Option Value → Mem → Prop} {k f t : Int} (hs : SN m) (hQ : Q (some (.int (J (if m 5 1 < 16 then m 5 1 else -4)))) (if m 5 1 < 16 then apw m k f t else m)) : CM G 2 mX8_append [.ref (G.2.2.2 5), .int (J (k)), .int (J (f)), .int (J (t))] m Q := by
  refine CM.of dkX8_append (Or.inl rfl) [some _, some _, some _, some _] rfl (Nat.le_of_ble_eq_true rfl) ?_
  have hs0 := hs.1; have hs1 := hs.2
  refine x_aload_n (i := 0) (pc' := 1) rfl rfl rfl rfl ?_
  refine m_getf (i := 1) (pc' := 4) rfl rfl flX8_15 (sh5 G) rfl rfl ?_
  refine x_bipush (i := 2) (pc' := 6) rfl rfl (by decide) ?_
  refine x_icmplt (i := 3) (pc' := 9) (tgt := 12) rfl rfl (by decide) ⟨by omega, by omega⟩ ⟨by omega, by omega⟩ (fun c1 => ?_) (fun c1 => ?_)
  · skip
    refine x_aload_n (i := 6) (pc' := 13) rfl rfl rfl rfl ?_
    refine x_aload_n (i := 7) (pc' := 14) rfl rfl rfl rfl ?_
    refine m_getf (i := 8) (pc' := 17) rfl rfl flX8_15 (sh5 G) rfl rfl ?_
    refine x_iload_n (i := 9) (pc' := 18) rfl rfl rfl rfl ?_
    refine x_iload_n (i := 10) (pc' := 19) rfl rfl rfl rfl ?_
    refine x_iload_n (i := 11) (pc' := 20) rfl rfl rfl rfl ?_
    refine m_callV (i := 12) (pc' := 23) (av := [_, _, _, _]) (rest := []) rfl rfl (by decide) lX8_37 (sh5 G) rfl rfl rfl rfl rfl (Nat.le_of_ble_eq_true rfl) (Nat.le_refl _) (Nat.le_refl _) (s_X8_put (by omega) ?_)
    dsimp only [psh]
    refine x_aload_n (i := 13) (pc' := 24) rfl rfl rfl rfl ?_
    refine x_dup (i := 14) (pc' := 25) rfl rfl rfl ?_
    refine m_getf (i := 15) (pc' := 28) rfl rfl flX8_15 (sh5 G) rfl rfl ?_
    refine x_iconst (i := 16) (pc' := 29) rfl rfl ?_
    refine x_iadd (i := 17) (pc' := 30) rfl rfl ?_
    refine m_putf (kz := 1) (i := 18) (pc' := 33) rfl rfl flX8_15 (sh5 G) (fun _ => rfl) rfl (Nat.le_of_ble_eq_true rfl) rfl rfl ?_
    refine x_aload_n (i := 19) (pc' := 34) rfl rfl rfl rfl ?_
    refine m_getf (i := 20) (pc' := 37) rfl rfl flX8_15 (sh5 G) rfl rfl ?_
    refine x_iconst (i := 21) (pc' := 38) rfl rfl ?_
    refine x_isub (i := 22) (pc' := 39) rfl rfl ?_
    exact m_ireturn (i := 23) rfl rfl (by (repeat' split at hQ) <;> first | exact hQ | (exfalso; omega) | (have e9 : m 5 1 = apw m k f t 5 1 - 1 := (by rw [apw_n]; omega); rw [e9] at hQ; exact hQ))
  · skip
    refine x_bipush (i := 4) (pc' := 11) rfl rfl (by decide) ?_
    exact m_ireturn (i := 5) rfl rfl (by (repeat' split at hQ) <;> first | exact hQ | (exfalso; omega) | (have e9 : m 5 1 = apw m k f t 5 1 - 1 := (by rw [apw_n]; omega); rw [e9] at hQ; exact hQ))
theorem s_X8_moveRows {G : GG} {m : Mem} {Q : Option Value → Mem → Prop} {a b n : Int} (h1 : 0 ≤ a ∧ 0 ≤ b ∧ 0 ≤ n ∧ a + n ≤ 16 ∧ b + n ≤ 16) (hQ : Q none (mvm m a b n)) : CM G 1 mX8_moveRows [.ref (G.2.2.2 5), .int (J (a)), .int (J (b)), .int (J (n))] m Q := by
  refine CM.of dkX8_moveRows (Or.inl rfl) [some _, some _, some _, some _] rfl (Nat.le_of_ble_eq_true rfl) ?_
  refine x_aload_n (i := 0) (pc' := 1) rfl rfl rfl rfl ?_
  refine m_getf (i := 1) (pc' := 4) rfl rfl flX8_11 (sh5 G) rfl rfl ?_
  refine x_iload_n (i := 2) (pc' := 5) rfl rfl rfl rfl ?_
  refine x_iconst (i := 3) (pc' := 6) rfl rfl ?_
  refine x_imul (i := 4) (pc' := 7) rfl rfl ?_
  refine x_aload_n (i := 5) (pc' := 8) rfl rfl rfl rfl ?_
  refine m_getf (i := 6) (pc' := 11) rfl rfl flX8_11 (sh5 G) rfl rfl ?_
  refine x_iload_n (i := 7) (pc' := 12) rfl rfl rfl rfl ?_
  refine x_iconst (i := 8) (pc' := 13) rfl rfl ?_
  refine x_imul (i := 9) (pc' := 14) rfl rfl ?_
  refine x_iload_n (i := 10) (pc' := 15) rfl rfl rfl rfl ?_
  refine x_iconst (i := 11) (pc' := 16) rfl rfl ?_
  refine x_imul (i := 12) (pc' := 17) rfl rfl ?_
  refine m_copy (i := 13) (pc' := 20) rfl rfl (by decide) acX8_19 (sh6 G) (sh6 G) (by decide) (by decide) (by first | omega | (show _ ≤ ((48 : Nat) : Int); omega)) (by first | omega | (show _ ≤ ((48 : Nat) : Int); omega)) (by first | omega | (show _ ≤ ((48 : Nat) : Int); omega)) (by first | omega | (show _ ≤ ((48 : Nat) : Int); omega)) (by first | omega | (show _ ≤ ((48 : Nat) : Int); omega)) (Nat.le_of_ble_eq_true rfl) ac_n ac_s ac_i ?_
  exact m_return (i := 14) rfl rfl (hQ)
theorem s_X8_remove {G : GG} {m : Mem} {Q : Option Value → Mem → Prop} {k : Int} (hs : SN m) (h1 : rg k) (hQ : Q (some (.int (J (if 0 ≤ k ∧ k < m 5 1 then m 5 1 - 1 else -2)))) (if 0 ≤ k ∧ k < m 5 1 then rmw m k else m)) : CM G 2 mX8_remove [.ref (G.2.2.2 5), .int (J (k))] m Q := by
  refine CM.of dkX8_remove (Or.inl rfl) [some _, some _] rfl (Nat.le_of_ble_eq_true rfl) ?_
  have hs0 := hs.1; have hs1 := hs.2
  refine x_aload_n (i := 0) (pc' := 1) rfl rfl rfl rfl ?_
  refine x_iload_n (i := 1) (pc' := 2) rfl rfl rfl rfl ?_
  refine m_callV (i := 2) (pc' := 5) (av := [_]) (rest := []) rfl rfl (by decide) lX8_41 (sh5 G) rfl rfl rfl rfl rfl (Nat.le_of_ble_eq_true rfl) (Nat.le_refl _) (Nat.le_refl _) (s_X8_holds hs (by omega) ?_)
  dsimp only [psh]
  refine x_ifne (i := 3) (pc' := 8) (tgt := 11) rfl rfl (by decide) (by (repeat' split) <;> omega) (fun c1 => ?_) (fun c1 => ?_)
  · skip
    refine x_aload_n (i := 6) (pc' := 12) rfl rfl rfl rfl ?_
    refine x_iload_n (i := 7) (pc' := 13) rfl rfl rfl rfl ?_
    refine x_iconst (i := 8) (pc' := 14) rfl rfl ?_
    refine x_iadd (i := 9) (pc' := 15) rfl rfl ?_
    refine x_iload_n (i := 10) (pc' := 16) rfl rfl rfl rfl ?_
    refine x_aload_n (i := 11) (pc' := 17) rfl rfl rfl rfl ?_
    refine m_getf (i := 12) (pc' := 20) rfl rfl flX8_15 (sh5 G) rfl rfl ?_
    refine x_iconst (i := 13) (pc' := 21) rfl rfl ?_
    refine x_isub (i := 14) (pc' := 22) rfl rfl ?_
    refine x_iload_n (i := 15) (pc' := 23) rfl rfl rfl rfl ?_
    refine x_isub (i := 16) (pc' := 24) rfl rfl ?_
    refine m_callV (i := 17) (pc' := 27) (av := [_, _, _]) (rest := []) rfl rfl (by decide) lX8_45 (sh5 G) rfl rfl rfl rfl rfl (Nat.le_of_ble_eq_true rfl) (Nat.le_refl _) (Nat.le_refl _) (s_X8_moveRows (by (repeat' split at *) <;> omega) ?_)
    dsimp only [psh]
    refine x_aload_n (i := 18) (pc' := 28) rfl rfl rfl rfl ?_
    refine x_dup (i := 19) (pc' := 29) rfl rfl rfl ?_
    refine m_getf (i := 20) (pc' := 32) rfl rfl flX8_15 (sh5 G) rfl rfl ?_
    refine x_iconst (i := 21) (pc' := 33) rfl rfl ?_
    refine x_isub (i := 22) (pc' := 34) rfl rfl ?_
    refine m_putf (kz := 1) (i := 23) (pc' := 37) rfl rfl flX8_15 (sh5 G) (fun _ => rfl) rfl (Nat.le_of_ble_eq_true rfl) rfl rfl ?_
    refine x_aload_n (i := 24) (pc' := 38) rfl rfl rfl rfl ?_
    refine m_getf (i := 25) (pc' := 41) rfl rfl flX8_15 (sh5 G) rfl rfl ?_
    exact m_ireturn (i := 26) rfl rfl (by (repeat' split at hQ) <;> first | exact hQ | (exfalso; omega) | (rw [← rmw_n m k] at hQ; exact hQ))
  · skip
    refine x_bipush (i := 4) (pc' := 10) rfl rfl (by decide) ?_
    exact m_ireturn (i := 5) rfl rfl (by (repeat' split at hQ) <;> first | exact hQ | (exfalso; omega) | (rw [← rmw_n m k] at hQ; exact hQ))
theorem s_X8_move {G : GG} {m : Mem} {Q : Option Value → Mem → Prop} {i j : Int} (hs : SN m) (h1 : rg i) (h2 : rg j) (hQ : Q (some (.int (J (if (0 ≤ i ∧ i < m 5 1) ∧ (0 ≤ j ∧ j < m 5 1) then ab (i - j) else -2)))) (if (0 ≤ i ∧ i < m 5 1) ∧ (0 ≤ j ∧ j < m 5 1) then shf m i j else m)) : CM G 2 mX8_move [.ref (G.2.2.2 5), .int (J (i)), .int (J (j))] m Q := by
  refine CM.of dkX8_move (Or.inl rfl) [some _, some _, some _, none, none, none] rfl (Nat.le_of_ble_eq_true rfl) ?_
  have hs0 := hs.1; have hs1 := hs.2
  refine x_aload_n (i := 0) (pc' := 1) rfl rfl rfl rfl ?_
  refine x_iload_n (i := 1) (pc' := 2) rfl rfl rfl rfl ?_
  refine m_callV (i := 2) (pc' := 5) (av := [_]) (rest := []) rfl rfl (by decide) lX8_41 (sh5 G) rfl rfl rfl rfl rfl (Nat.le_of_ble_eq_true rfl) (Nat.le_refl _) (Nat.le_refl _) (s_X8_holds hs (by omega) ?_)
  dsimp only [psh]
  refine x_ifeq (i := 3) (pc' := 8) (tgt := 16) rfl rfl (by decide) (by (repeat' split at *) <;> omega) (fun c1 => ?_) (fun c1 => ?_)
  · skip
    refine x_bipush (i := 8) (pc' := 18) rfl rfl (by decide) ?_
    exact m_ireturn (i := 9) rfl rfl (by unfold shf at hQ; (repeat' split at hQ) <;> first | exact hQ | (exfalso; omega))
  · skip
    refine x_aload_n (i := 4) (pc' := 9) rfl rfl rfl rfl ?_
    refine x_iload_n (i := 5) (pc' := 10) rfl rfl rfl rfl ?_
    refine m_callV (i := 6) (pc' := 13) (av := [_]) (rest := []) rfl rfl (by decide) lX8_41 (sh5 G) rfl rfl rfl rfl rfl (Nat.le_of_ble_eq_true rfl) (Nat.le_refl _) (Nat.le_refl _) (s_X8_holds hs (by omega) ?_)
    dsimp only [psh]
    refine x_ifne (i := 7) (pc' := 16) (tgt := 19) rfl rfl (by decide) (by (repeat' split at *) <;> omega) (fun c2 => ?_) (fun c2 => ?_)
    · skip
      refine x_aload_n (i := 10) (pc' := 20) rfl rfl rfl rfl ?_
      refine x_iload_n (i := 11) (pc' := 21) rfl rfl rfl rfl ?_
      refine m_callV (i := 12) (pc' := 24) (av := [_]) (rest := []) rfl rfl (by decide) lX8_33 (sh5 G) rfl rfl rfl rfl rfl (Nat.le_of_ble_eq_true rfl) (Nat.le_refl _) (Nat.le_refl _) (s_X8_signIn hs (by (repeat' split at *) <;> omega) ?_)
      dsimp only [psh]
      refine x_istore_n (L' := [some _, some _, some _, some _, none, none]) (i := 13) (pc' := 25) rfl rfl rfl rfl (by decide) rfl ?_
      refine x_aload_n (i := 14) (pc' := 26) rfl rfl rfl rfl ?_
      refine x_iload_n (i := 15) (pc' := 27) rfl rfl rfl rfl ?_
      refine m_callV (i := 16) (pc' := 30) (av := [_]) (rest := []) rfl rfl (by decide) lX8_49 (sh5 G) rfl rfl rfl rfl rfl (Nat.le_of_ble_eq_true rfl) (Nat.le_refl _) (Nat.le_refl _) (s_X8_from hs (by (repeat' split at *) <;> omega) ?_)
      dsimp only [psh]
      refine x_istore (L' := [some _, some _, some _, some _, some _, none]) (i := 17) (pc' := 32) rfl rfl rfl (by decide) rfl ?_
      refine x_aload_n (i := 18) (pc' := 33) rfl rfl rfl rfl ?_
      refine x_iload_n (i := 19) (pc' := 34) rfl rfl rfl rfl ?_
      refine m_callV (i := 20) (pc' := 37) (av := [_]) (rest := []) rfl rfl (by decide) lX8_52 (sh5 G) rfl rfl rfl rfl rfl (Nat.le_of_ble_eq_true rfl) (Nat.le_refl _) (Nat.le_refl _) (s_X8_to hs (by (repeat' split at *) <;> omega) ?_)
      dsimp only [psh]
      refine x_istore (L' := [some _, some _, some _, some _, some _, some _]) (i := 21) (pc' := 39) rfl rfl rfl (by decide) rfl ?_
      refine x_iload_n (i := 22) (pc' := 40) rfl rfl rfl rfl ?_
      refine x_iload_n (i := 23) (pc' := 41) rfl rfl rfl rfl ?_
      refine x_icmpge (i := 24) (pc' := 44) (tgt := 58) rfl rfl (by decide) (by (repeat' split at *) <;> omega) (by (repeat' split at *) <;> omega) (fun c3 => ?_) (fun c3 => ?_)
      · skip
        refine x_aload_n (i := 35) (pc' := 59) rfl rfl rfl rfl ?_
        refine x_iload_n (i := 36) (pc' := 60) rfl rfl rfl rfl ?_
        refine x_iload_n (i := 37) (pc' := 61) rfl rfl rfl rfl ?_
        refine x_iconst (i := 38) (pc' := 62) rfl rfl ?_
        refine x_iadd (i := 39) (pc' := 63) rfl rfl ?_
        refine x_iload_n (i := 40) (pc' := 64) rfl rfl rfl rfl ?_
        refine x_iload_n (i := 41) (pc' := 65) rfl rfl rfl rfl ?_
        refine x_isub (i := 42) (pc' := 66) rfl rfl ?_
        refine m_callV (i := 43) (pc' := 69) (av := [_, _, _]) (rest := []) rfl rfl (by decide) lX8_45 (sh5 G) rfl rfl rfl rfl rfl (Nat.le_of_ble_eq_true rfl) (Nat.le_refl _) (Nat.le_refl _) (s_X8_moveRows (by (repeat' split at *) <;> omega) ?_)
        dsimp only [psh]
        refine x_aload_n (i := 44) (pc' := 70) rfl rfl rfl rfl ?_
        refine x_iload_n (i := 45) (pc' := 71) rfl rfl rfl rfl ?_
        refine x_iload_n (i := 46) (pc' := 72) rfl rfl rfl rfl ?_
        refine x_iload (i := 47) (pc' := 74) rfl rfl rfl ?_
        refine x_iload (i := 48) (pc' := 76) rfl rfl rfl ?_
        refine m_callV (i := 49) (pc' := 79) (av := [_, _, _, _]) (rest := []) rfl rfl (by decide) lX8_37 (sh5 G) rfl rfl rfl rfl rfl (Nat.le_of_ble_eq_true rfl) (Nat.le_refl _) (Nat.le_refl _) (s_X8_put (by (repeat' split at *) <;> omega) ?_)
        dsimp only [psh]
        refine x_iload_n (i := 50) (pc' := 80) rfl rfl rfl rfl ?_
        refine x_iload_n (i := 51) (pc' := 81) rfl rfl rfl rfl ?_
        refine x_isub (i := 52) (pc' := 82) rfl rfl ?_
        refine m_callS (i := 53) (pc' := 85) (av := [_]) (rest := []) rfl rfl (by decide) lX8_55 rfl rfl (Nat.le_of_ble_eq_true rfl) (Nat.le_refl _) (Nat.le_refl _) (s_J9_abs_0f7a4 (by (repeat' split at *) <;> omega) ?_)
        dsimp only [psh]
        exact m_ireturn (i := 54) rfl rfl (by unfold shf at hQ; (repeat' split at hQ) <;> first | exact hQ | (exfalso; omega))
      · skip
        refine x_aload_n (i := 25) (pc' := 45) rfl rfl rfl rfl ?_
        refine x_iload_n (i := 26) (pc' := 46) rfl rfl rfl rfl ?_
        refine x_iconst (i := 27) (pc' := 47) rfl rfl ?_
        refine x_iadd (i := 28) (pc' := 48) rfl rfl ?_
        refine x_iload_n (i := 29) (pc' := 49) rfl rfl rfl rfl ?_
        refine x_iload_n (i := 30) (pc' := 50) rfl rfl rfl rfl ?_
        refine x_iload_n (i := 31) (pc' := 51) rfl rfl rfl rfl ?_
        refine x_isub (i := 32) (pc' := 52) rfl rfl ?_
        refine m_callV (i := 33) (pc' := 55) (av := [_, _, _]) (rest := []) rfl rfl (by decide) lX8_45 (sh5 G) rfl rfl rfl rfl rfl (Nat.le_of_ble_eq_true rfl) (Nat.le_refl _) (Nat.le_refl _) (s_X8_moveRows (by (repeat' split at *) <;> omega) ?_)
        dsimp only [psh]
        refine x_goto (i := 34) (pc' := 69) rfl (by decide) ?_
        refine x_aload_n (i := 44) (pc' := 70) rfl rfl rfl rfl ?_
        refine x_iload_n (i := 45) (pc' := 71) rfl rfl rfl rfl ?_
        refine x_iload_n (i := 46) (pc' := 72) rfl rfl rfl rfl ?_
        refine x_iload (i := 47) (pc' := 74) rfl rfl rfl ?_
        refine x_iload (i := 48) (pc' := 76) rfl rfl rfl ?_
        refine m_callV (i := 49) (pc' := 79) (av := [_, _, _, _]) (rest := []) rfl rfl (by decide) lX8_37 (sh5 G) rfl rfl rfl rfl rfl (Nat.le_of_ble_eq_true rfl) (Nat.le_refl _) (Nat.le_refl _) (s_X8_put (by (repeat' split at *) <;> omega) ?_)
        dsimp only [psh]
        refine x_iload_n (i := 50) (pc' := 80) rfl rfl rfl rfl ?_
        refine x_iload_n (i := 51) (pc' := 81) rfl rfl rfl rfl ?_
        refine x_isub (i := 52) (pc' := 82) rfl rfl ?_
        refine m_callS (i := 53) (pc' := 85) (av := [_]) (rest := []) rfl rfl (by decide) lX8_55 rfl rfl (Nat.le_of_ble_eq_true rfl) (Nat.le_refl _) (Nat.le_refl _) (s_J9_abs_0f7a4 (by (repeat' split at *) <;> omega) ?_)
        dsimp only [psh]
        exact m_ireturn (i := 54) rfl rfl (by unfold shf at hQ; (repeat' split at hQ) <;> first | exact hQ | (exfalso; omega))
    · skip
      refine x_bipush (i := 8) (pc' := 18) rfl rfl (by decide) ?_
      exact m_ireturn (i := 9) rfl rfl (by unfold shf at hQ; (repeat' split at hQ) <;> first | exact hQ | (exfalso; omega))
theorem s_X8_removeAll {G : GG} {m : Mem} {Q : Option Value → Mem → Prop}  (hQ : Q (some (.int (J (m 5 1)))) (stm m 5 1 0)) : CM G 0 mX8_removeAll [.ref (G.2.2.2 5)] m Q := by
  refine CM.of dkX8_removeAll (Or.inl rfl) [some _, none] rfl (Nat.le_of_ble_eq_true rfl) ?_
  refine x_aload_n (i := 0) (pc' := 1) rfl rfl rfl rfl ?_
  refine m_getf (i := 1) (pc' := 4) rfl rfl flX8_15 (sh5 G) rfl rfl ?_
  refine x_istore_n (L' := [some _, some _]) (i := 2) (pc' := 5) rfl rfl rfl rfl (by decide) rfl ?_
  refine x_aload_n (i := 3) (pc' := 6) rfl rfl rfl rfl ?_
  refine x_iconst (i := 4) (pc' := 7) rfl rfl ?_
  refine m_putf (kz := 1) (i := 5) (pc' := 10) rfl rfl flX8_15 (sh5 G) (fun _ => rfl) rfl (Nat.le_of_ble_eq_true rfl) rfl rfl ?_
  refine x_iload_n (i := 6) (pc' := 11) rfl rfl rfl rfl ?_
  exact m_ireturn (i := 7) rfl rfl (hQ)
theorem s_X3_copyFrom_1_10 {G : GG} {m : Mem} {Q : Option Value → Mem → Prop}  (hQ : Q none (let m1 := sr m 3 (cpr (m 12) (m 3) 0 0 85); let m2 := sr m1 4 (cpr (m1 13) (m1 4) 0 0 4); stm m2 2 2 (m2 11 2))) : CM G 1 mX3_copyFrom [.ref (G.2.2.2 2), .ref (G.2.2.2 11)] m Q := by
  refine CM.of dkX3_copyFrom (Or.inl rfl) [some _, some _] rfl (Nat.le_of_ble_eq_true rfl) ?_
  refine x_aload_n (i := 0) (pc' := 1) rfl rfl rfl rfl ?_
  refine m_getf (i := 1) (pc' := 4) rfl rfl flX3_9 (sh11 G) rfl rfl ?_
  refine x_iconst (i := 2) (pc' := 5) rfl rfl ?_
  refine x_aload_n (i := 3) (pc' := 6) rfl rfl rfl rfl ?_
  refine m_getf (i := 4) (pc' := 9) rfl rfl flX3_9 (sh2 G) rfl rfl ?_
  refine x_iconst (i := 5) (pc' := 10) rfl rfl ?_
  refine x_aload_n (i := 6) (pc' := 11) rfl rfl rfl rfl ?_
  refine m_getf (i := 7) (pc' := 14) rfl rfl flX3_9 (sh2 G) rfl rfl ?_
  refine m_alen (i := 8) (pc' := 15) rfl rfl (sh3 G) ?_
  refine m_copy (i := 9) (pc' := 18) rfl rfl (by decide) acX3_22 (sh12 G) (sh3 G) (by decide) (by decide) (by decide) (by decide) (by decide) (by decide) (by decide) (Nat.le_of_ble_eq_true rfl) ac_n ac_s ac_i ?_
  refine x_aload_n (i := 10) (pc' := 19) rfl rfl rfl rfl ?_
  refine m_getf (i := 11) (pc' := 22) rfl rfl flX3_15 (sh11 G) rfl rfl ?_
  refine x_iconst (i := 12) (pc' := 23) rfl rfl ?_
  refine x_aload_n (i := 13) (pc' := 24) rfl rfl rfl rfl ?_
  refine m_getf (i := 14) (pc' := 27) rfl rfl flX3_15 (sh2 G) rfl rfl ?_
  refine x_iconst (i := 15) (pc' := 28) rfl rfl ?_
  refine x_iconst (i := 16) (pc' := 29) rfl rfl ?_
  refine m_copy (i := 17) (pc' := 32) rfl rfl (by decide) acX3_22 (sh13 G) (sh4 G) (by decide) (by decide) (by decide) (by decide) (by decide) (by decide) (by decide) (Nat.le_of_ble_eq_true rfl) ac_n ac_s ac_i ?_
  refine x_aload_n (i := 18) (pc' := 33) rfl rfl rfl rfl ?_
  refine x_aload_n (i := 19) (pc' := 34) rfl rfl rfl rfl ?_
  refine m_getf (i := 20) (pc' := 37) rfl rfl flX3_18 (sh11 G) rfl rfl ?_
  refine m_putf (kz := 2) (i := 21) (pc' := 40) rfl rfl flX3_18 (sh2 G) (fun _ => rfl) rfl (Nat.le_of_ble_eq_true rfl) rfl rfl ?_
  exact m_return (i := 22) rfl rfl (hQ)
theorem s_X8_copyFrom_1_10 {G : GG} {m : Mem} {Q : Option Value → Mem → Prop}  (hQ : Q none (let m1 := sr m 6 (cpr (m 15) (m 6) 0 0 48); stm m1 5 1 (m1 14 1))) : CM G 1 mX8_copyFrom [.ref (G.2.2.2 5), .ref (G.2.2.2 14)] m Q := by
  refine CM.of dkX8_copyFrom (Or.inl rfl) [some _, some _] rfl (Nat.le_of_ble_eq_true rfl) ?_
  refine x_aload_n (i := 0) (pc' := 1) rfl rfl rfl rfl ?_
  refine m_getf (i := 1) (pc' := 4) rfl rfl flX8_11 (sh14 G) rfl rfl ?_
  refine x_iconst (i := 2) (pc' := 5) rfl rfl ?_
  refine x_aload_n (i := 3) (pc' := 6) rfl rfl rfl rfl ?_
  refine m_getf (i := 4) (pc' := 9) rfl rfl flX8_11 (sh5 G) rfl rfl ?_
  refine x_iconst (i := 5) (pc' := 10) rfl rfl ?_
  refine x_aload_n (i := 6) (pc' := 11) rfl rfl rfl rfl ?_
  refine m_getf (i := 7) (pc' := 14) rfl rfl flX8_11 (sh5 G) rfl rfl ?_
  refine m_alen (i := 8) (pc' := 15) rfl rfl (sh6 G) ?_
  refine m_copy (i := 9) (pc' := 18) rfl rfl (by decide) acX8_19 (sh15 G) (sh6 G) (by decide) (by decide) (by decide) (by decide) (by decide) (by decide) (by decide) (Nat.le_of_ble_eq_true rfl) ac_n ac_s ac_i ?_
  refine x_aload_n (i := 10) (pc' := 19) rfl rfl rfl rfl ?_
  refine x_aload_n (i := 11) (pc' := 20) rfl rfl rfl rfl ?_
  refine m_getf (i := 12) (pc' := 23) rfl rfl flX8_15 (sh14 G) rfl rfl ?_
  refine m_putf (kz := 1) (i := 13) (pc' := 26) rfl rfl flX8_15 (sh5 G) (fun _ => rfl) rfl (Nat.le_of_ble_eq_true rfl) rfl rfl ?_
  exact m_return (i := 14) rfl rfl (hQ)
theorem s_X9_copyFrom_1_10 {G : GG} {m : Mem} {Q : Option Value → Mem → Prop}  (hQ : Q none (cps m 1 10)) : CM G 2 mX9_copyFrom [.ref (G.2.2.2 1), .ref (G.2.2.2 10)] m Q := by
  refine CM.of dkX9_copyFrom (Or.inl rfl) [some _, some _] rfl (Nat.le_of_ble_eq_true rfl) ?_
  refine x_aload_n (i := 0) (pc' := 1) rfl rfl rfl rfl ?_
  refine m_getf (i := 1) (pc' := 4) rfl rfl flX9_12 (sh1 G) rfl rfl ?_
  refine x_aload_n (i := 2) (pc' := 5) rfl rfl rfl rfl ?_
  refine m_getf (i := 3) (pc' := 8) rfl rfl flX9_12 (sh10 G) rfl rfl ?_
  refine m_callV (i := 4) (pc' := 11) (av := [_]) (rest := []) rfl rfl (by decide) lX9_29 (sh2 G) rfl rfl rfl rfl rfl (Nat.le_of_ble_eq_true rfl) (Nat.le_refl _) (Nat.le_refl _) (s_X3_copyFrom_1_10 ?_)
  dsimp only [psh]
  refine x_aload_n (i := 5) (pc' := 12) rfl rfl rfl rfl ?_
  refine m_getf (i := 6) (pc' := 15) rfl rfl flX9_21 (sh1 G) rfl rfl ?_
  refine x_aload_n (i := 7) (pc' := 16) rfl rfl rfl rfl ?_
  refine m_getf (i := 8) (pc' := 19) rfl rfl flX9_21 (sh10 G) rfl rfl ?_
  refine m_callV (i := 9) (pc' := 22) (av := [_]) (rest := []) rfl rfl (by decide) lX9_33 (sh5 G) rfl rfl rfl rfl rfl (Nat.le_of_ble_eq_true rfl) (Nat.le_refl _) (Nat.le_refl _) (s_X8_copyFrom_1_10 ?_)
  dsimp only [psh]
  refine x_aload_n (i := 10) (pc' := 23) rfl rfl rfl rfl ?_
  refine m_getf (i := 11) (pc' := 26) rfl rfl flX9_25 (sh10 G) rfl rfl ?_
  refine x_iconst (i := 12) (pc' := 27) rfl rfl ?_
  refine x_aload_n (i := 13) (pc' := 28) rfl rfl rfl rfl ?_
  refine m_getf (i := 14) (pc' := 31) rfl rfl flX9_25 (sh1 G) rfl rfl ?_
  refine x_iconst (i := 15) (pc' := 32) rfl rfl ?_
  refine x_bipush (i := 16) (pc' := 34) rfl rfl (by decide) ?_
  refine m_copy (i := 17) (pc' := 37) rfl rfl (by decide) acX9_36 (sh16 G) (sh7 G) (by decide) (by decide) (by decide) (by decide) (by decide) (by decide) (by decide) (Nat.le_of_ble_eq_true rfl) ac_n ac_s ac_i ?_
  exact m_return (i := 18) rfl rfl (hQ)
theorem s_X3_copyFrom_1_17 {G : GG} {m : Mem} {Q : Option Value → Mem → Prop}  (hQ : Q none (let m1 := sr m 3 (cpr (m 19) (m 3) 0 0 85); let m2 := sr m1 4 (cpr (m1 20) (m1 4) 0 0 4); stm m2 2 2 (m2 18 2))) : CM G 1 mX3_copyFrom [.ref (G.2.2.2 2), .ref (G.2.2.2 18)] m Q := by
  refine CM.of dkX3_copyFrom (Or.inl rfl) [some _, some _] rfl (Nat.le_of_ble_eq_true rfl) ?_
  refine x_aload_n (i := 0) (pc' := 1) rfl rfl rfl rfl ?_
  refine m_getf (i := 1) (pc' := 4) rfl rfl flX3_9 (sh18 G) rfl rfl ?_
  refine x_iconst (i := 2) (pc' := 5) rfl rfl ?_
  refine x_aload_n (i := 3) (pc' := 6) rfl rfl rfl rfl ?_
  refine m_getf (i := 4) (pc' := 9) rfl rfl flX3_9 (sh2 G) rfl rfl ?_
  refine x_iconst (i := 5) (pc' := 10) rfl rfl ?_
  refine x_aload_n (i := 6) (pc' := 11) rfl rfl rfl rfl ?_
  refine m_getf (i := 7) (pc' := 14) rfl rfl flX3_9 (sh2 G) rfl rfl ?_
  refine m_alen (i := 8) (pc' := 15) rfl rfl (sh3 G) ?_
  refine m_copy (i := 9) (pc' := 18) rfl rfl (by decide) acX3_22 (sh19 G) (sh3 G) (by decide) (by decide) (by decide) (by decide) (by decide) (by decide) (by decide) (Nat.le_of_ble_eq_true rfl) ac_n ac_s ac_i ?_
  refine x_aload_n (i := 10) (pc' := 19) rfl rfl rfl rfl ?_
  refine m_getf (i := 11) (pc' := 22) rfl rfl flX3_15 (sh18 G) rfl rfl ?_
  refine x_iconst (i := 12) (pc' := 23) rfl rfl ?_
  refine x_aload_n (i := 13) (pc' := 24) rfl rfl rfl rfl ?_
  refine m_getf (i := 14) (pc' := 27) rfl rfl flX3_15 (sh2 G) rfl rfl ?_
  refine x_iconst (i := 15) (pc' := 28) rfl rfl ?_
  refine x_iconst (i := 16) (pc' := 29) rfl rfl ?_
  refine m_copy (i := 17) (pc' := 32) rfl rfl (by decide) acX3_22 (sh20 G) (sh4 G) (by decide) (by decide) (by decide) (by decide) (by decide) (by decide) (by decide) (Nat.le_of_ble_eq_true rfl) ac_n ac_s ac_i ?_
  refine x_aload_n (i := 18) (pc' := 33) rfl rfl rfl rfl ?_
  refine x_aload_n (i := 19) (pc' := 34) rfl rfl rfl rfl ?_
  refine m_getf (i := 20) (pc' := 37) rfl rfl flX3_18 (sh18 G) rfl rfl ?_
  refine m_putf (kz := 2) (i := 21) (pc' := 40) rfl rfl flX3_18 (sh2 G) (fun _ => rfl) rfl (Nat.le_of_ble_eq_true rfl) rfl rfl ?_
  exact m_return (i := 22) rfl rfl (hQ)
theorem s_X8_copyFrom_1_17 {G : GG} {m : Mem} {Q : Option Value → Mem → Prop}  (hQ : Q none (let m1 := sr m 6 (cpr (m 22) (m 6) 0 0 48); stm m1 5 1 (m1 21 1))) : CM G 1 mX8_copyFrom [.ref (G.2.2.2 5), .ref (G.2.2.2 21)] m Q := by
  refine CM.of dkX8_copyFrom (Or.inl rfl) [some _, some _] rfl (Nat.le_of_ble_eq_true rfl) ?_
  refine x_aload_n (i := 0) (pc' := 1) rfl rfl rfl rfl ?_
  refine m_getf (i := 1) (pc' := 4) rfl rfl flX8_11 (sh21 G) rfl rfl ?_
  refine x_iconst (i := 2) (pc' := 5) rfl rfl ?_
  refine x_aload_n (i := 3) (pc' := 6) rfl rfl rfl rfl ?_
  refine m_getf (i := 4) (pc' := 9) rfl rfl flX8_11 (sh5 G) rfl rfl ?_
  refine x_iconst (i := 5) (pc' := 10) rfl rfl ?_
  refine x_aload_n (i := 6) (pc' := 11) rfl rfl rfl rfl ?_
  refine m_getf (i := 7) (pc' := 14) rfl rfl flX8_11 (sh5 G) rfl rfl ?_
  refine m_alen (i := 8) (pc' := 15) rfl rfl (sh6 G) ?_
  refine m_copy (i := 9) (pc' := 18) rfl rfl (by decide) acX8_19 (sh22 G) (sh6 G) (by decide) (by decide) (by decide) (by decide) (by decide) (by decide) (by decide) (Nat.le_of_ble_eq_true rfl) ac_n ac_s ac_i ?_
  refine x_aload_n (i := 10) (pc' := 19) rfl rfl rfl rfl ?_
  refine x_aload_n (i := 11) (pc' := 20) rfl rfl rfl rfl ?_
  refine m_getf (i := 12) (pc' := 23) rfl rfl flX8_15 (sh21 G) rfl rfl ?_
  refine m_putf (kz := 1) (i := 13) (pc' := 26) rfl rfl flX8_15 (sh5 G) (fun _ => rfl) rfl (Nat.le_of_ble_eq_true rfl) rfl rfl ?_
  exact m_return (i := 14) rfl rfl (hQ)
theorem s_X9_copyFrom_1_17 {G : GG} {m : Mem} {Q : Option Value → Mem → Prop}  (hQ : Q none (cps m 1 17)) : CM G 2 mX9_copyFrom [.ref (G.2.2.2 1), .ref (G.2.2.2 17)] m Q := by
  refine CM.of dkX9_copyFrom (Or.inl rfl) [some _, some _] rfl (Nat.le_of_ble_eq_true rfl) ?_
  refine x_aload_n (i := 0) (pc' := 1) rfl rfl rfl rfl ?_
  refine m_getf (i := 1) (pc' := 4) rfl rfl flX9_12 (sh1 G) rfl rfl ?_
  refine x_aload_n (i := 2) (pc' := 5) rfl rfl rfl rfl ?_
  refine m_getf (i := 3) (pc' := 8) rfl rfl flX9_12 (sh17 G) rfl rfl ?_
  refine m_callV (i := 4) (pc' := 11) (av := [_]) (rest := []) rfl rfl (by decide) lX9_29 (sh2 G) rfl rfl rfl rfl rfl (Nat.le_of_ble_eq_true rfl) (Nat.le_refl _) (Nat.le_refl _) (s_X3_copyFrom_1_17 ?_)
  dsimp only [psh]
  refine x_aload_n (i := 5) (pc' := 12) rfl rfl rfl rfl ?_
  refine m_getf (i := 6) (pc' := 15) rfl rfl flX9_21 (sh1 G) rfl rfl ?_
  refine x_aload_n (i := 7) (pc' := 16) rfl rfl rfl rfl ?_
  refine m_getf (i := 8) (pc' := 19) rfl rfl flX9_21 (sh17 G) rfl rfl ?_
  refine m_callV (i := 9) (pc' := 22) (av := [_]) (rest := []) rfl rfl (by decide) lX9_33 (sh5 G) rfl rfl rfl rfl rfl (Nat.le_of_ble_eq_true rfl) (Nat.le_refl _) (Nat.le_refl _) (s_X8_copyFrom_1_17 ?_)
  dsimp only [psh]
  refine x_aload_n (i := 10) (pc' := 23) rfl rfl rfl rfl ?_
  refine m_getf (i := 11) (pc' := 26) rfl rfl flX9_25 (sh17 G) rfl rfl ?_
  refine x_iconst (i := 12) (pc' := 27) rfl rfl ?_
  refine x_aload_n (i := 13) (pc' := 28) rfl rfl rfl rfl ?_
  refine m_getf (i := 14) (pc' := 31) rfl rfl flX9_25 (sh1 G) rfl rfl ?_
  refine x_iconst (i := 15) (pc' := 32) rfl rfl ?_
  refine x_bipush (i := 16) (pc' := 34) rfl rfl (by decide) ?_
  refine m_copy (i := 17) (pc' := 37) rfl rfl (by decide) acX9_36 (sh23 G) (sh7 G) (by decide) (by decide) (by decide) (by decide) (by decide) (by decide) (by decide) (Nat.le_of_ble_eq_true rfl) ac_n ac_s ac_i ?_
  exact m_return (i := 18) rfl rfl (hQ)
theorem s_X3_copyFrom_1_24 {G : GG} {m : Mem} {Q : Option Value → Mem → Prop}  (hQ : Q none (let m1 := sr m 3 (cpr (m 26) (m 3) 0 0 85); let m2 := sr m1 4 (cpr (m1 27) (m1 4) 0 0 4); stm m2 2 2 (m2 25 2))) : CM G 1 mX3_copyFrom [.ref (G.2.2.2 2), .ref (G.2.2.2 25)] m Q := by
  refine CM.of dkX3_copyFrom (Or.inl rfl) [some _, some _] rfl (Nat.le_of_ble_eq_true rfl) ?_
  refine x_aload_n (i := 0) (pc' := 1) rfl rfl rfl rfl ?_
  refine m_getf (i := 1) (pc' := 4) rfl rfl flX3_9 (sh25 G) rfl rfl ?_
  refine x_iconst (i := 2) (pc' := 5) rfl rfl ?_
  refine x_aload_n (i := 3) (pc' := 6) rfl rfl rfl rfl ?_
  refine m_getf (i := 4) (pc' := 9) rfl rfl flX3_9 (sh2 G) rfl rfl ?_
  refine x_iconst (i := 5) (pc' := 10) rfl rfl ?_
  refine x_aload_n (i := 6) (pc' := 11) rfl rfl rfl rfl ?_
  refine m_getf (i := 7) (pc' := 14) rfl rfl flX3_9 (sh2 G) rfl rfl ?_
  refine m_alen (i := 8) (pc' := 15) rfl rfl (sh3 G) ?_
  refine m_copy (i := 9) (pc' := 18) rfl rfl (by decide) acX3_22 (sh26 G) (sh3 G) (by decide) (by decide) (by decide) (by decide) (by decide) (by decide) (by decide) (Nat.le_of_ble_eq_true rfl) ac_n ac_s ac_i ?_
  refine x_aload_n (i := 10) (pc' := 19) rfl rfl rfl rfl ?_
  refine m_getf (i := 11) (pc' := 22) rfl rfl flX3_15 (sh25 G) rfl rfl ?_
  refine x_iconst (i := 12) (pc' := 23) rfl rfl ?_
  refine x_aload_n (i := 13) (pc' := 24) rfl rfl rfl rfl ?_
  refine m_getf (i := 14) (pc' := 27) rfl rfl flX3_15 (sh2 G) rfl rfl ?_
  refine x_iconst (i := 15) (pc' := 28) rfl rfl ?_
  refine x_iconst (i := 16) (pc' := 29) rfl rfl ?_
  refine m_copy (i := 17) (pc' := 32) rfl rfl (by decide) acX3_22 (sh27 G) (sh4 G) (by decide) (by decide) (by decide) (by decide) (by decide) (by decide) (by decide) (Nat.le_of_ble_eq_true rfl) ac_n ac_s ac_i ?_
  refine x_aload_n (i := 18) (pc' := 33) rfl rfl rfl rfl ?_
  refine x_aload_n (i := 19) (pc' := 34) rfl rfl rfl rfl ?_
  refine m_getf (i := 20) (pc' := 37) rfl rfl flX3_18 (sh25 G) rfl rfl ?_
  refine m_putf (kz := 2) (i := 21) (pc' := 40) rfl rfl flX3_18 (sh2 G) (fun _ => rfl) rfl (Nat.le_of_ble_eq_true rfl) rfl rfl ?_
  exact m_return (i := 22) rfl rfl (hQ)
theorem s_X8_copyFrom_1_24 {G : GG} {m : Mem} {Q : Option Value → Mem → Prop}  (hQ : Q none (let m1 := sr m 6 (cpr (m 29) (m 6) 0 0 48); stm m1 5 1 (m1 28 1))) : CM G 1 mX8_copyFrom [.ref (G.2.2.2 5), .ref (G.2.2.2 28)] m Q := by
  refine CM.of dkX8_copyFrom (Or.inl rfl) [some _, some _] rfl (Nat.le_of_ble_eq_true rfl) ?_
  refine x_aload_n (i := 0) (pc' := 1) rfl rfl rfl rfl ?_
  refine m_getf (i := 1) (pc' := 4) rfl rfl flX8_11 (sh28 G) rfl rfl ?_
  refine x_iconst (i := 2) (pc' := 5) rfl rfl ?_
  refine x_aload_n (i := 3) (pc' := 6) rfl rfl rfl rfl ?_
  refine m_getf (i := 4) (pc' := 9) rfl rfl flX8_11 (sh5 G) rfl rfl ?_
  refine x_iconst (i := 5) (pc' := 10) rfl rfl ?_
  refine x_aload_n (i := 6) (pc' := 11) rfl rfl rfl rfl ?_
  refine m_getf (i := 7) (pc' := 14) rfl rfl flX8_11 (sh5 G) rfl rfl ?_
  refine m_alen (i := 8) (pc' := 15) rfl rfl (sh6 G) ?_
  refine m_copy (i := 9) (pc' := 18) rfl rfl (by decide) acX8_19 (sh29 G) (sh6 G) (by decide) (by decide) (by decide) (by decide) (by decide) (by decide) (by decide) (Nat.le_of_ble_eq_true rfl) ac_n ac_s ac_i ?_
  refine x_aload_n (i := 10) (pc' := 19) rfl rfl rfl rfl ?_
  refine x_aload_n (i := 11) (pc' := 20) rfl rfl rfl rfl ?_
  refine m_getf (i := 12) (pc' := 23) rfl rfl flX8_15 (sh28 G) rfl rfl ?_
  refine m_putf (kz := 1) (i := 13) (pc' := 26) rfl rfl flX8_15 (sh5 G) (fun _ => rfl) rfl (Nat.le_of_ble_eq_true rfl) rfl rfl ?_
  exact m_return (i := 14) rfl rfl (hQ)
theorem s_X9_copyFrom_1_24 {G : GG} {m : Mem} {Q : Option Value → Mem → Prop}  (hQ : Q none (cps m 1 24)) : CM G 2 mX9_copyFrom [.ref (G.2.2.2 1), .ref (G.2.2.2 24)] m Q := by
  refine CM.of dkX9_copyFrom (Or.inl rfl) [some _, some _] rfl (Nat.le_of_ble_eq_true rfl) ?_
  refine x_aload_n (i := 0) (pc' := 1) rfl rfl rfl rfl ?_
  refine m_getf (i := 1) (pc' := 4) rfl rfl flX9_12 (sh1 G) rfl rfl ?_
  refine x_aload_n (i := 2) (pc' := 5) rfl rfl rfl rfl ?_
  refine m_getf (i := 3) (pc' := 8) rfl rfl flX9_12 (sh24 G) rfl rfl ?_
  refine m_callV (i := 4) (pc' := 11) (av := [_]) (rest := []) rfl rfl (by decide) lX9_29 (sh2 G) rfl rfl rfl rfl rfl (Nat.le_of_ble_eq_true rfl) (Nat.le_refl _) (Nat.le_refl _) (s_X3_copyFrom_1_24 ?_)
  dsimp only [psh]
  refine x_aload_n (i := 5) (pc' := 12) rfl rfl rfl rfl ?_
  refine m_getf (i := 6) (pc' := 15) rfl rfl flX9_21 (sh1 G) rfl rfl ?_
  refine x_aload_n (i := 7) (pc' := 16) rfl rfl rfl rfl ?_
  refine m_getf (i := 8) (pc' := 19) rfl rfl flX9_21 (sh24 G) rfl rfl ?_
  refine m_callV (i := 9) (pc' := 22) (av := [_]) (rest := []) rfl rfl (by decide) lX9_33 (sh5 G) rfl rfl rfl rfl rfl (Nat.le_of_ble_eq_true rfl) (Nat.le_refl _) (Nat.le_refl _) (s_X8_copyFrom_1_24 ?_)
  dsimp only [psh]
  refine x_aload_n (i := 10) (pc' := 23) rfl rfl rfl rfl ?_
  refine m_getf (i := 11) (pc' := 26) rfl rfl flX9_25 (sh24 G) rfl rfl ?_
  refine x_iconst (i := 12) (pc' := 27) rfl rfl ?_
  refine x_aload_n (i := 13) (pc' := 28) rfl rfl rfl rfl ?_
  refine m_getf (i := 14) (pc' := 31) rfl rfl flX9_25 (sh1 G) rfl rfl ?_
  refine x_iconst (i := 15) (pc' := 32) rfl rfl ?_
  refine x_bipush (i := 16) (pc' := 34) rfl rfl (by decide) ?_
  refine m_copy (i := 17) (pc' := 37) rfl rfl (by decide) acX9_36 (sh30 G) (sh7 G) (by decide) (by decide) (by decide) (by decide) (by decide) (by decide) (by decide) (Nat.le_of_ble_eq_true rfl) ac_n ac_s ac_i ?_
  exact m_return (i := 18) rfl rfl (hQ)
theorem s_X3_copyFrom_1_31 {G : GG} {m : Mem} {Q : Option Value → Mem → Prop}  (hQ : Q none (let m1 := sr m 3 (cpr (m 33) (m 3) 0 0 85); let m2 := sr m1 4 (cpr (m1 34) (m1 4) 0 0 4); stm m2 2 2 (m2 32 2))) : CM G 1 mX3_copyFrom [.ref (G.2.2.2 2), .ref (G.2.2.2 32)] m Q := by
  refine CM.of dkX3_copyFrom (Or.inl rfl) [some _, some _] rfl (Nat.le_of_ble_eq_true rfl) ?_
  refine x_aload_n (i := 0) (pc' := 1) rfl rfl rfl rfl ?_
  refine m_getf (i := 1) (pc' := 4) rfl rfl flX3_9 (sh32 G) rfl rfl ?_
  refine x_iconst (i := 2) (pc' := 5) rfl rfl ?_
  refine x_aload_n (i := 3) (pc' := 6) rfl rfl rfl rfl ?_
  refine m_getf (i := 4) (pc' := 9) rfl rfl flX3_9 (sh2 G) rfl rfl ?_
  refine x_iconst (i := 5) (pc' := 10) rfl rfl ?_
  refine x_aload_n (i := 6) (pc' := 11) rfl rfl rfl rfl ?_
  refine m_getf (i := 7) (pc' := 14) rfl rfl flX3_9 (sh2 G) rfl rfl ?_
  refine m_alen (i := 8) (pc' := 15) rfl rfl (sh3 G) ?_
  refine m_copy (i := 9) (pc' := 18) rfl rfl (by decide) acX3_22 (sh33 G) (sh3 G) (by decide) (by decide) (by decide) (by decide) (by decide) (by decide) (by decide) (Nat.le_of_ble_eq_true rfl) ac_n ac_s ac_i ?_
  refine x_aload_n (i := 10) (pc' := 19) rfl rfl rfl rfl ?_
  refine m_getf (i := 11) (pc' := 22) rfl rfl flX3_15 (sh32 G) rfl rfl ?_
  refine x_iconst (i := 12) (pc' := 23) rfl rfl ?_
  refine x_aload_n (i := 13) (pc' := 24) rfl rfl rfl rfl ?_
  refine m_getf (i := 14) (pc' := 27) rfl rfl flX3_15 (sh2 G) rfl rfl ?_
  refine x_iconst (i := 15) (pc' := 28) rfl rfl ?_
  refine x_iconst (i := 16) (pc' := 29) rfl rfl ?_
  refine m_copy (i := 17) (pc' := 32) rfl rfl (by decide) acX3_22 (sh34 G) (sh4 G) (by decide) (by decide) (by decide) (by decide) (by decide) (by decide) (by decide) (Nat.le_of_ble_eq_true rfl) ac_n ac_s ac_i ?_
  refine x_aload_n (i := 18) (pc' := 33) rfl rfl rfl rfl ?_
  refine x_aload_n (i := 19) (pc' := 34) rfl rfl rfl rfl ?_
  refine m_getf (i := 20) (pc' := 37) rfl rfl flX3_18 (sh32 G) rfl rfl ?_
  refine m_putf (kz := 2) (i := 21) (pc' := 40) rfl rfl flX3_18 (sh2 G) (fun _ => rfl) rfl (Nat.le_of_ble_eq_true rfl) rfl rfl ?_
  exact m_return (i := 22) rfl rfl (hQ)
theorem s_X8_copyFrom_1_31 {G : GG} {m : Mem} {Q : Option Value → Mem → Prop}  (hQ : Q none (let m1 := sr m 6 (cpr (m 36) (m 6) 0 0 48); stm m1 5 1 (m1 35 1))) : CM G 1 mX8_copyFrom [.ref (G.2.2.2 5), .ref (G.2.2.2 35)] m Q := by
  refine CM.of dkX8_copyFrom (Or.inl rfl) [some _, some _] rfl (Nat.le_of_ble_eq_true rfl) ?_
  refine x_aload_n (i := 0) (pc' := 1) rfl rfl rfl rfl ?_
  refine m_getf (i := 1) (pc' := 4) rfl rfl flX8_11 (sh35 G) rfl rfl ?_
  refine x_iconst (i := 2) (pc' := 5) rfl rfl ?_
  refine x_aload_n (i := 3) (pc' := 6) rfl rfl rfl rfl ?_
  refine m_getf (i := 4) (pc' := 9) rfl rfl flX8_11 (sh5 G) rfl rfl ?_
  refine x_iconst (i := 5) (pc' := 10) rfl rfl ?_
  refine x_aload_n (i := 6) (pc' := 11) rfl rfl rfl rfl ?_
  refine m_getf (i := 7) (pc' := 14) rfl rfl flX8_11 (sh5 G) rfl rfl ?_
  refine m_alen (i := 8) (pc' := 15) rfl rfl (sh6 G) ?_
  refine m_copy (i := 9) (pc' := 18) rfl rfl (by decide) acX8_19 (sh36 G) (sh6 G) (by decide) (by decide) (by decide) (by decide) (by decide) (by decide) (by decide) (Nat.le_of_ble_eq_true rfl) ac_n ac_s ac_i ?_
  refine x_aload_n (i := 10) (pc' := 19) rfl rfl rfl rfl ?_
  refine x_aload_n (i := 11) (pc' := 20) rfl rfl rfl rfl ?_
  refine m_getf (i := 12) (pc' := 23) rfl rfl flX8_15 (sh35 G) rfl rfl ?_
  refine m_putf (kz := 1) (i := 13) (pc' := 26) rfl rfl flX8_15 (sh5 G) (fun _ => rfl) rfl (Nat.le_of_ble_eq_true rfl) rfl rfl ?_
  exact m_return (i := 14) rfl rfl (hQ)
theorem s_X9_copyFrom_1_31 {G : GG} {m : Mem} {Q : Option Value → Mem → Prop}  (hQ : Q none (cps m 1 31)) : CM G 2 mX9_copyFrom [.ref (G.2.2.2 1), .ref (G.2.2.2 31)] m Q := by
  refine CM.of dkX9_copyFrom (Or.inl rfl) [some _, some _] rfl (Nat.le_of_ble_eq_true rfl) ?_
  refine x_aload_n (i := 0) (pc' := 1) rfl rfl rfl rfl ?_
  refine m_getf (i := 1) (pc' := 4) rfl rfl flX9_12 (sh1 G) rfl rfl ?_
  refine x_aload_n (i := 2) (pc' := 5) rfl rfl rfl rfl ?_
  refine m_getf (i := 3) (pc' := 8) rfl rfl flX9_12 (sh31 G) rfl rfl ?_
  refine m_callV (i := 4) (pc' := 11) (av := [_]) (rest := []) rfl rfl (by decide) lX9_29 (sh2 G) rfl rfl rfl rfl rfl (Nat.le_of_ble_eq_true rfl) (Nat.le_refl _) (Nat.le_refl _) (s_X3_copyFrom_1_31 ?_)
  dsimp only [psh]
  refine x_aload_n (i := 5) (pc' := 12) rfl rfl rfl rfl ?_
  refine m_getf (i := 6) (pc' := 15) rfl rfl flX9_21 (sh1 G) rfl rfl ?_
  refine x_aload_n (i := 7) (pc' := 16) rfl rfl rfl rfl ?_
  refine m_getf (i := 8) (pc' := 19) rfl rfl flX9_21 (sh31 G) rfl rfl ?_
  refine m_callV (i := 9) (pc' := 22) (av := [_]) (rest := []) rfl rfl (by decide) lX9_33 (sh5 G) rfl rfl rfl rfl rfl (Nat.le_of_ble_eq_true rfl) (Nat.le_refl _) (Nat.le_refl _) (s_X8_copyFrom_1_31 ?_)
  dsimp only [psh]
  refine x_aload_n (i := 10) (pc' := 23) rfl rfl rfl rfl ?_
  refine m_getf (i := 11) (pc' := 26) rfl rfl flX9_25 (sh31 G) rfl rfl ?_
  refine x_iconst (i := 12) (pc' := 27) rfl rfl ?_
  refine x_aload_n (i := 13) (pc' := 28) rfl rfl rfl rfl ?_
  refine m_getf (i := 14) (pc' := 31) rfl rfl flX9_25 (sh1 G) rfl rfl ?_
  refine x_iconst (i := 15) (pc' := 32) rfl rfl ?_
  refine x_bipush (i := 16) (pc' := 34) rfl rfl (by decide) ?_
  refine m_copy (i := 17) (pc' := 37) rfl rfl (by decide) acX9_36 (sh37 G) (sh7 G) (by decide) (by decide) (by decide) (by decide) (by decide) (by decide) (by decide) (Nat.le_of_ble_eq_true rfl) ac_n ac_s ac_i ?_
  exact m_return (i := 18) rfl rfl (hQ)
theorem s_X3_copyFrom_1_38 {G : GG} {m : Mem} {Q : Option Value → Mem → Prop}  (hQ : Q none (let m1 := sr m 3 (cpr (m 40) (m 3) 0 0 85); let m2 := sr m1 4 (cpr (m1 41) (m1 4) 0 0 4); stm m2 2 2 (m2 39 2))) : CM G 1 mX3_copyFrom [.ref (G.2.2.2 2), .ref (G.2.2.2 39)] m Q := by
  refine CM.of dkX3_copyFrom (Or.inl rfl) [some _, some _] rfl (Nat.le_of_ble_eq_true rfl) ?_
  refine x_aload_n (i := 0) (pc' := 1) rfl rfl rfl rfl ?_
  refine m_getf (i := 1) (pc' := 4) rfl rfl flX3_9 (sh39 G) rfl rfl ?_
  refine x_iconst (i := 2) (pc' := 5) rfl rfl ?_
  refine x_aload_n (i := 3) (pc' := 6) rfl rfl rfl rfl ?_
  refine m_getf (i := 4) (pc' := 9) rfl rfl flX3_9 (sh2 G) rfl rfl ?_
  refine x_iconst (i := 5) (pc' := 10) rfl rfl ?_
  refine x_aload_n (i := 6) (pc' := 11) rfl rfl rfl rfl ?_
  refine m_getf (i := 7) (pc' := 14) rfl rfl flX3_9 (sh2 G) rfl rfl ?_
  refine m_alen (i := 8) (pc' := 15) rfl rfl (sh3 G) ?_
  refine m_copy (i := 9) (pc' := 18) rfl rfl (by decide) acX3_22 (sh40 G) (sh3 G) (by decide) (by decide) (by decide) (by decide) (by decide) (by decide) (by decide) (Nat.le_of_ble_eq_true rfl) ac_n ac_s ac_i ?_
  refine x_aload_n (i := 10) (pc' := 19) rfl rfl rfl rfl ?_
  refine m_getf (i := 11) (pc' := 22) rfl rfl flX3_15 (sh39 G) rfl rfl ?_
  refine x_iconst (i := 12) (pc' := 23) rfl rfl ?_
  refine x_aload_n (i := 13) (pc' := 24) rfl rfl rfl rfl ?_
  refine m_getf (i := 14) (pc' := 27) rfl rfl flX3_15 (sh2 G) rfl rfl ?_
  refine x_iconst (i := 15) (pc' := 28) rfl rfl ?_
  refine x_iconst (i := 16) (pc' := 29) rfl rfl ?_
  refine m_copy (i := 17) (pc' := 32) rfl rfl (by decide) acX3_22 (sh41 G) (sh4 G) (by decide) (by decide) (by decide) (by decide) (by decide) (by decide) (by decide) (Nat.le_of_ble_eq_true rfl) ac_n ac_s ac_i ?_
  refine x_aload_n (i := 18) (pc' := 33) rfl rfl rfl rfl ?_
  refine x_aload_n (i := 19) (pc' := 34) rfl rfl rfl rfl ?_
  refine m_getf (i := 20) (pc' := 37) rfl rfl flX3_18 (sh39 G) rfl rfl ?_
  refine m_putf (kz := 2) (i := 21) (pc' := 40) rfl rfl flX3_18 (sh2 G) (fun _ => rfl) rfl (Nat.le_of_ble_eq_true rfl) rfl rfl ?_
  exact m_return (i := 22) rfl rfl (hQ)
theorem s_X8_copyFrom_1_38 {G : GG} {m : Mem} {Q : Option Value → Mem → Prop}  (hQ : Q none (let m1 := sr m 6 (cpr (m 43) (m 6) 0 0 48); stm m1 5 1 (m1 42 1))) : CM G 1 mX8_copyFrom [.ref (G.2.2.2 5), .ref (G.2.2.2 42)] m Q := by
  refine CM.of dkX8_copyFrom (Or.inl rfl) [some _, some _] rfl (Nat.le_of_ble_eq_true rfl) ?_
  refine x_aload_n (i := 0) (pc' := 1) rfl rfl rfl rfl ?_
  refine m_getf (i := 1) (pc' := 4) rfl rfl flX8_11 (sh42 G) rfl rfl ?_
  refine x_iconst (i := 2) (pc' := 5) rfl rfl ?_
  refine x_aload_n (i := 3) (pc' := 6) rfl rfl rfl rfl ?_
  refine m_getf (i := 4) (pc' := 9) rfl rfl flX8_11 (sh5 G) rfl rfl ?_
  refine x_iconst (i := 5) (pc' := 10) rfl rfl ?_
  refine x_aload_n (i := 6) (pc' := 11) rfl rfl rfl rfl ?_
  refine m_getf (i := 7) (pc' := 14) rfl rfl flX8_11 (sh5 G) rfl rfl ?_
  refine m_alen (i := 8) (pc' := 15) rfl rfl (sh6 G) ?_
  refine m_copy (i := 9) (pc' := 18) rfl rfl (by decide) acX8_19 (sh43 G) (sh6 G) (by decide) (by decide) (by decide) (by decide) (by decide) (by decide) (by decide) (Nat.le_of_ble_eq_true rfl) ac_n ac_s ac_i ?_
  refine x_aload_n (i := 10) (pc' := 19) rfl rfl rfl rfl ?_
  refine x_aload_n (i := 11) (pc' := 20) rfl rfl rfl rfl ?_
  refine m_getf (i := 12) (pc' := 23) rfl rfl flX8_15 (sh42 G) rfl rfl ?_
  refine m_putf (kz := 1) (i := 13) (pc' := 26) rfl rfl flX8_15 (sh5 G) (fun _ => rfl) rfl (Nat.le_of_ble_eq_true rfl) rfl rfl ?_
  exact m_return (i := 14) rfl rfl (hQ)
theorem s_X9_copyFrom_1_38 {G : GG} {m : Mem} {Q : Option Value → Mem → Prop}  (hQ : Q none (cps m 1 38)) : CM G 2 mX9_copyFrom [.ref (G.2.2.2 1), .ref (G.2.2.2 38)] m Q := by
  refine CM.of dkX9_copyFrom (Or.inl rfl) [some _, some _] rfl (Nat.le_of_ble_eq_true rfl) ?_
  refine x_aload_n (i := 0) (pc' := 1) rfl rfl rfl rfl ?_
  refine m_getf (i := 1) (pc' := 4) rfl rfl flX9_12 (sh1 G) rfl rfl ?_
  refine x_aload_n (i := 2) (pc' := 5) rfl rfl rfl rfl ?_
  refine m_getf (i := 3) (pc' := 8) rfl rfl flX9_12 (sh38 G) rfl rfl ?_
  refine m_callV (i := 4) (pc' := 11) (av := [_]) (rest := []) rfl rfl (by decide) lX9_29 (sh2 G) rfl rfl rfl rfl rfl (Nat.le_of_ble_eq_true rfl) (Nat.le_refl _) (Nat.le_refl _) (s_X3_copyFrom_1_38 ?_)
  dsimp only [psh]
  refine x_aload_n (i := 5) (pc' := 12) rfl rfl rfl rfl ?_
  refine m_getf (i := 6) (pc' := 15) rfl rfl flX9_21 (sh1 G) rfl rfl ?_
  refine x_aload_n (i := 7) (pc' := 16) rfl rfl rfl rfl ?_
  refine m_getf (i := 8) (pc' := 19) rfl rfl flX9_21 (sh38 G) rfl rfl ?_
  refine m_callV (i := 9) (pc' := 22) (av := [_]) (rest := []) rfl rfl (by decide) lX9_33 (sh5 G) rfl rfl rfl rfl rfl (Nat.le_of_ble_eq_true rfl) (Nat.le_refl _) (Nat.le_refl _) (s_X8_copyFrom_1_38 ?_)
  dsimp only [psh]
  refine x_aload_n (i := 10) (pc' := 23) rfl rfl rfl rfl ?_
  refine m_getf (i := 11) (pc' := 26) rfl rfl flX9_25 (sh38 G) rfl rfl ?_
  refine x_iconst (i := 12) (pc' := 27) rfl rfl ?_
  refine x_aload_n (i := 13) (pc' := 28) rfl rfl rfl rfl ?_
  refine m_getf (i := 14) (pc' := 31) rfl rfl flX9_25 (sh1 G) rfl rfl ?_
  refine x_iconst (i := 15) (pc' := 32) rfl rfl ?_
  refine x_bipush (i := 16) (pc' := 34) rfl rfl (by decide) ?_
  refine m_copy (i := 17) (pc' := 37) rfl rfl (by decide) acX9_36 (sh44 G) (sh7 G) (by decide) (by decide) (by decide) (by decide) (by decide) (by decide) (by decide) (Nat.le_of_ble_eq_true rfl) ac_n ac_s ac_i ?_
  exact m_return (i := 18) rfl rfl (hQ)
theorem s_X3_copyFrom_1_45 {G : GG} {m : Mem} {Q : Option Value → Mem → Prop}  (hQ : Q none (let m1 := sr m 3 (cpr (m 47) (m 3) 0 0 85); let m2 := sr m1 4 (cpr (m1 48) (m1 4) 0 0 4); stm m2 2 2 (m2 46 2))) : CM G 1 mX3_copyFrom [.ref (G.2.2.2 2), .ref (G.2.2.2 46)] m Q := by
  refine CM.of dkX3_copyFrom (Or.inl rfl) [some _, some _] rfl (Nat.le_of_ble_eq_true rfl) ?_
  refine x_aload_n (i := 0) (pc' := 1) rfl rfl rfl rfl ?_
  refine m_getf (i := 1) (pc' := 4) rfl rfl flX3_9 (sh46 G) rfl rfl ?_
  refine x_iconst (i := 2) (pc' := 5) rfl rfl ?_
  refine x_aload_n (i := 3) (pc' := 6) rfl rfl rfl rfl ?_
  refine m_getf (i := 4) (pc' := 9) rfl rfl flX3_9 (sh2 G) rfl rfl ?_
  refine x_iconst (i := 5) (pc' := 10) rfl rfl ?_
  refine x_aload_n (i := 6) (pc' := 11) rfl rfl rfl rfl ?_
  refine m_getf (i := 7) (pc' := 14) rfl rfl flX3_9 (sh2 G) rfl rfl ?_
  refine m_alen (i := 8) (pc' := 15) rfl rfl (sh3 G) ?_
  refine m_copy (i := 9) (pc' := 18) rfl rfl (by decide) acX3_22 (sh47 G) (sh3 G) (by decide) (by decide) (by decide) (by decide) (by decide) (by decide) (by decide) (Nat.le_of_ble_eq_true rfl) ac_n ac_s ac_i ?_
  refine x_aload_n (i := 10) (pc' := 19) rfl rfl rfl rfl ?_
  refine m_getf (i := 11) (pc' := 22) rfl rfl flX3_15 (sh46 G) rfl rfl ?_
  refine x_iconst (i := 12) (pc' := 23) rfl rfl ?_
  refine x_aload_n (i := 13) (pc' := 24) rfl rfl rfl rfl ?_
  refine m_getf (i := 14) (pc' := 27) rfl rfl flX3_15 (sh2 G) rfl rfl ?_
  refine x_iconst (i := 15) (pc' := 28) rfl rfl ?_
  refine x_iconst (i := 16) (pc' := 29) rfl rfl ?_
  refine m_copy (i := 17) (pc' := 32) rfl rfl (by decide) acX3_22 (sh48 G) (sh4 G) (by decide) (by decide) (by decide) (by decide) (by decide) (by decide) (by decide) (Nat.le_of_ble_eq_true rfl) ac_n ac_s ac_i ?_
  refine x_aload_n (i := 18) (pc' := 33) rfl rfl rfl rfl ?_
  refine x_aload_n (i := 19) (pc' := 34) rfl rfl rfl rfl ?_
  refine m_getf (i := 20) (pc' := 37) rfl rfl flX3_18 (sh46 G) rfl rfl ?_
  refine m_putf (kz := 2) (i := 21) (pc' := 40) rfl rfl flX3_18 (sh2 G) (fun _ => rfl) rfl (Nat.le_of_ble_eq_true rfl) rfl rfl ?_
  exact m_return (i := 22) rfl rfl (hQ)
theorem s_X8_copyFrom_1_45 {G : GG} {m : Mem} {Q : Option Value → Mem → Prop}  (hQ : Q none (let m1 := sr m 6 (cpr (m 50) (m 6) 0 0 48); stm m1 5 1 (m1 49 1))) : CM G 1 mX8_copyFrom [.ref (G.2.2.2 5), .ref (G.2.2.2 49)] m Q := by
  refine CM.of dkX8_copyFrom (Or.inl rfl) [some _, some _] rfl (Nat.le_of_ble_eq_true rfl) ?_
  refine x_aload_n (i := 0) (pc' := 1) rfl rfl rfl rfl ?_
  refine m_getf (i := 1) (pc' := 4) rfl rfl flX8_11 (sh49 G) rfl rfl ?_
  refine x_iconst (i := 2) (pc' := 5) rfl rfl ?_
  refine x_aload_n (i := 3) (pc' := 6) rfl rfl rfl rfl ?_
  refine m_getf (i := 4) (pc' := 9) rfl rfl flX8_11 (sh5 G) rfl rfl ?_
  refine x_iconst (i := 5) (pc' := 10) rfl rfl ?_
  refine x_aload_n (i := 6) (pc' := 11) rfl rfl rfl rfl ?_
  refine m_getf (i := 7) (pc' := 14) rfl rfl flX8_11 (sh5 G) rfl rfl ?_
  refine m_alen (i := 8) (pc' := 15) rfl rfl (sh6 G) ?_
  refine m_copy (i := 9) (pc' := 18) rfl rfl (by decide) acX8_19 (sh50 G) (sh6 G) (by decide) (by decide) (by decide) (by decide) (by decide) (by decide) (by decide) (Nat.le_of_ble_eq_true rfl) ac_n ac_s ac_i ?_
  refine x_aload_n (i := 10) (pc' := 19) rfl rfl rfl rfl ?_
  refine x_aload_n (i := 11) (pc' := 20) rfl rfl rfl rfl ?_
  refine m_getf (i := 12) (pc' := 23) rfl rfl flX8_15 (sh49 G) rfl rfl ?_
  refine m_putf (kz := 1) (i := 13) (pc' := 26) rfl rfl flX8_15 (sh5 G) (fun _ => rfl) rfl (Nat.le_of_ble_eq_true rfl) rfl rfl ?_
  exact m_return (i := 14) rfl rfl (hQ)
theorem s_X9_copyFrom_1_45 {G : GG} {m : Mem} {Q : Option Value → Mem → Prop}  (hQ : Q none (cps m 1 45)) : CM G 2 mX9_copyFrom [.ref (G.2.2.2 1), .ref (G.2.2.2 45)] m Q := by
  refine CM.of dkX9_copyFrom (Or.inl rfl) [some _, some _] rfl (Nat.le_of_ble_eq_true rfl) ?_
  refine x_aload_n (i := 0) (pc' := 1) rfl rfl rfl rfl ?_
  refine m_getf (i := 1) (pc' := 4) rfl rfl flX9_12 (sh1 G) rfl rfl ?_
  refine x_aload_n (i := 2) (pc' := 5) rfl rfl rfl rfl ?_
  refine m_getf (i := 3) (pc' := 8) rfl rfl flX9_12 (sh45 G) rfl rfl ?_
  refine m_callV (i := 4) (pc' := 11) (av := [_]) (rest := []) rfl rfl (by decide) lX9_29 (sh2 G) rfl rfl rfl rfl rfl (Nat.le_of_ble_eq_true rfl) (Nat.le_refl _) (Nat.le_refl _) (s_X3_copyFrom_1_45 ?_)
  dsimp only [psh]
  refine x_aload_n (i := 5) (pc' := 12) rfl rfl rfl rfl ?_
  refine m_getf (i := 6) (pc' := 15) rfl rfl flX9_21 (sh1 G) rfl rfl ?_
  refine x_aload_n (i := 7) (pc' := 16) rfl rfl rfl rfl ?_
  refine m_getf (i := 8) (pc' := 19) rfl rfl flX9_21 (sh45 G) rfl rfl ?_
  refine m_callV (i := 9) (pc' := 22) (av := [_]) (rest := []) rfl rfl (by decide) lX9_33 (sh5 G) rfl rfl rfl rfl rfl (Nat.le_of_ble_eq_true rfl) (Nat.le_refl _) (Nat.le_refl _) (s_X8_copyFrom_1_45 ?_)
  dsimp only [psh]
  refine x_aload_n (i := 10) (pc' := 23) rfl rfl rfl rfl ?_
  refine m_getf (i := 11) (pc' := 26) rfl rfl flX9_25 (sh45 G) rfl rfl ?_
  refine x_iconst (i := 12) (pc' := 27) rfl rfl ?_
  refine x_aload_n (i := 13) (pc' := 28) rfl rfl rfl rfl ?_
  refine m_getf (i := 14) (pc' := 31) rfl rfl flX9_25 (sh1 G) rfl rfl ?_
  refine x_iconst (i := 15) (pc' := 32) rfl rfl ?_
  refine x_bipush (i := 16) (pc' := 34) rfl rfl (by decide) ?_
  refine m_copy (i := 17) (pc' := 37) rfl rfl (by decide) acX9_36 (sh51 G) (sh7 G) (by decide) (by decide) (by decide) (by decide) (by decide) (by decide) (by decide) (Nat.le_of_ble_eq_true rfl) ac_n ac_s ac_i ?_
  exact m_return (i := 18) rfl rfl (hQ)
theorem s_X3_copyFrom_10_1 {G : GG} {m : Mem} {Q : Option Value → Mem → Prop}  (hQ : Q none (let m1 := sr m 12 (cpr (m 3) (m 12) 0 0 85); let m2 := sr m1 13 (cpr (m1 4) (m1 13) 0 0 4); stm m2 11 2 (m2 2 2))) : CM G 1 mX3_copyFrom [.ref (G.2.2.2 11), .ref (G.2.2.2 2)] m Q := by
  refine CM.of dkX3_copyFrom (Or.inl rfl) [some _, some _] rfl (Nat.le_of_ble_eq_true rfl) ?_
  refine x_aload_n (i := 0) (pc' := 1) rfl rfl rfl rfl ?_
  refine m_getf (i := 1) (pc' := 4) rfl rfl flX3_9 (sh2 G) rfl rfl ?_
  refine x_iconst (i := 2) (pc' := 5) rfl rfl ?_
  refine x_aload_n (i := 3) (pc' := 6) rfl rfl rfl rfl ?_
  refine m_getf (i := 4) (pc' := 9) rfl rfl flX3_9 (sh11 G) rfl rfl ?_
  refine x_iconst (i := 5) (pc' := 10) rfl rfl ?_
  refine x_aload_n (i := 6) (pc' := 11) rfl rfl rfl rfl ?_
  refine m_getf (i := 7) (pc' := 14) rfl rfl flX3_9 (sh11 G) rfl rfl ?_
  refine m_alen (i := 8) (pc' := 15) rfl rfl (sh12 G) ?_
  refine m_copy (i := 9) (pc' := 18) rfl rfl (by decide) acX3_22 (sh3 G) (sh12 G) (by decide) (by decide) (by decide) (by decide) (by decide) (by decide) (by decide) (Nat.le_of_ble_eq_true rfl) ac_n ac_s ac_i ?_
  refine x_aload_n (i := 10) (pc' := 19) rfl rfl rfl rfl ?_
  refine m_getf (i := 11) (pc' := 22) rfl rfl flX3_15 (sh2 G) rfl rfl ?_
  refine x_iconst (i := 12) (pc' := 23) rfl rfl ?_
  refine x_aload_n (i := 13) (pc' := 24) rfl rfl rfl rfl ?_
  refine m_getf (i := 14) (pc' := 27) rfl rfl flX3_15 (sh11 G) rfl rfl ?_
  refine x_iconst (i := 15) (pc' := 28) rfl rfl ?_
  refine x_iconst (i := 16) (pc' := 29) rfl rfl ?_
  refine m_copy (i := 17) (pc' := 32) rfl rfl (by decide) acX3_22 (sh4 G) (sh13 G) (by decide) (by decide) (by decide) (by decide) (by decide) (by decide) (by decide) (Nat.le_of_ble_eq_true rfl) ac_n ac_s ac_i ?_
  refine x_aload_n (i := 18) (pc' := 33) rfl rfl rfl rfl ?_
  refine x_aload_n (i := 19) (pc' := 34) rfl rfl rfl rfl ?_
  refine m_getf (i := 20) (pc' := 37) rfl rfl flX3_18 (sh2 G) rfl rfl ?_
  refine m_putf (kz := 2) (i := 21) (pc' := 40) rfl rfl flX3_18 (sh11 G) (fun _ => rfl) rfl (Nat.le_of_ble_eq_true rfl) rfl rfl ?_
  exact m_return (i := 22) rfl rfl (hQ)
theorem s_X8_copyFrom_10_1 {G : GG} {m : Mem} {Q : Option Value → Mem → Prop}  (hQ : Q none (let m1 := sr m 15 (cpr (m 6) (m 15) 0 0 48); stm m1 14 1 (m1 5 1))) : CM G 1 mX8_copyFrom [.ref (G.2.2.2 14), .ref (G.2.2.2 5)] m Q := by
  refine CM.of dkX8_copyFrom (Or.inl rfl) [some _, some _] rfl (Nat.le_of_ble_eq_true rfl) ?_
  refine x_aload_n (i := 0) (pc' := 1) rfl rfl rfl rfl ?_
  refine m_getf (i := 1) (pc' := 4) rfl rfl flX8_11 (sh5 G) rfl rfl ?_
  refine x_iconst (i := 2) (pc' := 5) rfl rfl ?_
  refine x_aload_n (i := 3) (pc' := 6) rfl rfl rfl rfl ?_
  refine m_getf (i := 4) (pc' := 9) rfl rfl flX8_11 (sh14 G) rfl rfl ?_
  refine x_iconst (i := 5) (pc' := 10) rfl rfl ?_
  refine x_aload_n (i := 6) (pc' := 11) rfl rfl rfl rfl ?_
  refine m_getf (i := 7) (pc' := 14) rfl rfl flX8_11 (sh14 G) rfl rfl ?_
  refine m_alen (i := 8) (pc' := 15) rfl rfl (sh15 G) ?_
  refine m_copy (i := 9) (pc' := 18) rfl rfl (by decide) acX8_19 (sh6 G) (sh15 G) (by decide) (by decide) (by decide) (by decide) (by decide) (by decide) (by decide) (Nat.le_of_ble_eq_true rfl) ac_n ac_s ac_i ?_
  refine x_aload_n (i := 10) (pc' := 19) rfl rfl rfl rfl ?_
  refine x_aload_n (i := 11) (pc' := 20) rfl rfl rfl rfl ?_
  refine m_getf (i := 12) (pc' := 23) rfl rfl flX8_15 (sh5 G) rfl rfl ?_
  refine m_putf (kz := 1) (i := 13) (pc' := 26) rfl rfl flX8_15 (sh14 G) (fun _ => rfl) rfl (Nat.le_of_ble_eq_true rfl) rfl rfl ?_
  exact m_return (i := 14) rfl rfl (hQ)
theorem s_X9_copyFrom_10_1 {G : GG} {m : Mem} {Q : Option Value → Mem → Prop}  (hQ : Q none (cps m 10 1)) : CM G 2 mX9_copyFrom [.ref (G.2.2.2 10), .ref (G.2.2.2 1)] m Q := by
  refine CM.of dkX9_copyFrom (Or.inl rfl) [some _, some _] rfl (Nat.le_of_ble_eq_true rfl) ?_
  refine x_aload_n (i := 0) (pc' := 1) rfl rfl rfl rfl ?_
  refine m_getf (i := 1) (pc' := 4) rfl rfl flX9_12 (sh10 G) rfl rfl ?_
  refine x_aload_n (i := 2) (pc' := 5) rfl rfl rfl rfl ?_
  refine m_getf (i := 3) (pc' := 8) rfl rfl flX9_12 (sh1 G) rfl rfl ?_
  refine m_callV (i := 4) (pc' := 11) (av := [_]) (rest := []) rfl rfl (by decide) lX9_29 (sh11 G) rfl rfl rfl rfl rfl (Nat.le_of_ble_eq_true rfl) (Nat.le_refl _) (Nat.le_refl _) (s_X3_copyFrom_10_1 ?_)
  dsimp only [psh]
  refine x_aload_n (i := 5) (pc' := 12) rfl rfl rfl rfl ?_
  refine m_getf (i := 6) (pc' := 15) rfl rfl flX9_21 (sh10 G) rfl rfl ?_
  refine x_aload_n (i := 7) (pc' := 16) rfl rfl rfl rfl ?_
  refine m_getf (i := 8) (pc' := 19) rfl rfl flX9_21 (sh1 G) rfl rfl ?_
  refine m_callV (i := 9) (pc' := 22) (av := [_]) (rest := []) rfl rfl (by decide) lX9_33 (sh14 G) rfl rfl rfl rfl rfl (Nat.le_of_ble_eq_true rfl) (Nat.le_refl _) (Nat.le_refl _) (s_X8_copyFrom_10_1 ?_)
  dsimp only [psh]
  refine x_aload_n (i := 10) (pc' := 23) rfl rfl rfl rfl ?_
  refine m_getf (i := 11) (pc' := 26) rfl rfl flX9_25 (sh1 G) rfl rfl ?_
  refine x_iconst (i := 12) (pc' := 27) rfl rfl ?_
  refine x_aload_n (i := 13) (pc' := 28) rfl rfl rfl rfl ?_
  refine m_getf (i := 14) (pc' := 31) rfl rfl flX9_25 (sh10 G) rfl rfl ?_
  refine x_iconst (i := 15) (pc' := 32) rfl rfl ?_
  refine x_bipush (i := 16) (pc' := 34) rfl rfl (by decide) ?_
  refine m_copy (i := 17) (pc' := 37) rfl rfl (by decide) acX9_36 (sh7 G) (sh16 G) (by decide) (by decide) (by decide) (by decide) (by decide) (by decide) (by decide) (Nat.le_of_ble_eq_true rfl) ac_n ac_s ac_i ?_
  exact m_return (i := 18) rfl rfl (hQ)
theorem s_X3_copyFrom_17_1 {G : GG} {m : Mem} {Q : Option Value → Mem → Prop}  (hQ : Q none (let m1 := sr m 19 (cpr (m 3) (m 19) 0 0 85); let m2 := sr m1 20 (cpr (m1 4) (m1 20) 0 0 4); stm m2 18 2 (m2 2 2))) : CM G 1 mX3_copyFrom [.ref (G.2.2.2 18), .ref (G.2.2.2 2)] m Q := by
  refine CM.of dkX3_copyFrom (Or.inl rfl) [some _, some _] rfl (Nat.le_of_ble_eq_true rfl) ?_
  refine x_aload_n (i := 0) (pc' := 1) rfl rfl rfl rfl ?_
  refine m_getf (i := 1) (pc' := 4) rfl rfl flX3_9 (sh2 G) rfl rfl ?_
  refine x_iconst (i := 2) (pc' := 5) rfl rfl ?_
  refine x_aload_n (i := 3) (pc' := 6) rfl rfl rfl rfl ?_
  refine m_getf (i := 4) (pc' := 9) rfl rfl flX3_9 (sh18 G) rfl rfl ?_
  refine x_iconst (i := 5) (pc' := 10) rfl rfl ?_
  refine x_aload_n (i := 6) (pc' := 11) rfl rfl rfl rfl ?_
  refine m_getf (i := 7) (pc' := 14) rfl rfl flX3_9 (sh18 G) rfl rfl ?_
  refine m_alen (i := 8) (pc' := 15) rfl rfl (sh19 G) ?_
  refine m_copy (i := 9) (pc' := 18) rfl rfl (by decide) acX3_22 (sh3 G) (sh19 G) (by decide) (by decide) (by decide) (by decide) (by decide) (by decide) (by decide) (Nat.le_of_ble_eq_true rfl) ac_n ac_s ac_i ?_
  refine x_aload_n (i := 10) (pc' := 19) rfl rfl rfl rfl ?_
  refine m_getf (i := 11) (pc' := 22) rfl rfl flX3_15 (sh2 G) rfl rfl ?_
  refine x_iconst (i := 12) (pc' := 23) rfl rfl ?_
  refine x_aload_n (i := 13) (pc' := 24) rfl rfl rfl rfl ?_
  refine m_getf (i := 14) (pc' := 27) rfl rfl flX3_15 (sh18 G) rfl rfl ?_
  refine x_iconst (i := 15) (pc' := 28) rfl rfl ?_
  refine x_iconst (i := 16) (pc' := 29) rfl rfl ?_
  refine m_copy (i := 17) (pc' := 32) rfl rfl (by decide) acX3_22 (sh4 G) (sh20 G) (by decide) (by decide) (by decide) (by decide) (by decide) (by decide) (by decide) (Nat.le_of_ble_eq_true rfl) ac_n ac_s ac_i ?_
  refine x_aload_n (i := 18) (pc' := 33) rfl rfl rfl rfl ?_
  refine x_aload_n (i := 19) (pc' := 34) rfl rfl rfl rfl ?_
  refine m_getf (i := 20) (pc' := 37) rfl rfl flX3_18 (sh2 G) rfl rfl ?_
  refine m_putf (kz := 2) (i := 21) (pc' := 40) rfl rfl flX3_18 (sh18 G) (fun _ => rfl) rfl (Nat.le_of_ble_eq_true rfl) rfl rfl ?_
  exact m_return (i := 22) rfl rfl (hQ)
theorem s_X8_copyFrom_17_1 {G : GG} {m : Mem} {Q : Option Value → Mem → Prop}  (hQ : Q none (let m1 := sr m 22 (cpr (m 6) (m 22) 0 0 48); stm m1 21 1 (m1 5 1))) : CM G 1 mX8_copyFrom [.ref (G.2.2.2 21), .ref (G.2.2.2 5)] m Q := by
  refine CM.of dkX8_copyFrom (Or.inl rfl) [some _, some _] rfl (Nat.le_of_ble_eq_true rfl) ?_
  refine x_aload_n (i := 0) (pc' := 1) rfl rfl rfl rfl ?_
  refine m_getf (i := 1) (pc' := 4) rfl rfl flX8_11 (sh5 G) rfl rfl ?_
  refine x_iconst (i := 2) (pc' := 5) rfl rfl ?_
  refine x_aload_n (i := 3) (pc' := 6) rfl rfl rfl rfl ?_
  refine m_getf (i := 4) (pc' := 9) rfl rfl flX8_11 (sh21 G) rfl rfl ?_
  refine x_iconst (i := 5) (pc' := 10) rfl rfl ?_
  refine x_aload_n (i := 6) (pc' := 11) rfl rfl rfl rfl ?_
  refine m_getf (i := 7) (pc' := 14) rfl rfl flX8_11 (sh21 G) rfl rfl ?_
  refine m_alen (i := 8) (pc' := 15) rfl rfl (sh22 G) ?_
  refine m_copy (i := 9) (pc' := 18) rfl rfl (by decide) acX8_19 (sh6 G) (sh22 G) (by decide) (by decide) (by decide) (by decide) (by decide) (by decide) (by decide) (Nat.le_of_ble_eq_true rfl) ac_n ac_s ac_i ?_
  refine x_aload_n (i := 10) (pc' := 19) rfl rfl rfl rfl ?_
  refine x_aload_n (i := 11) (pc' := 20) rfl rfl rfl rfl ?_
  refine m_getf (i := 12) (pc' := 23) rfl rfl flX8_15 (sh5 G) rfl rfl ?_
  refine m_putf (kz := 1) (i := 13) (pc' := 26) rfl rfl flX8_15 (sh21 G) (fun _ => rfl) rfl (Nat.le_of_ble_eq_true rfl) rfl rfl ?_
  exact m_return (i := 14) rfl rfl (hQ)
theorem s_X9_copyFrom_17_1 {G : GG} {m : Mem} {Q : Option Value → Mem → Prop}  (hQ : Q none (cps m 17 1)) : CM G 2 mX9_copyFrom [.ref (G.2.2.2 17), .ref (G.2.2.2 1)] m Q := by
  refine CM.of dkX9_copyFrom (Or.inl rfl) [some _, some _] rfl (Nat.le_of_ble_eq_true rfl) ?_
  refine x_aload_n (i := 0) (pc' := 1) rfl rfl rfl rfl ?_
  refine m_getf (i := 1) (pc' := 4) rfl rfl flX9_12 (sh17 G) rfl rfl ?_
  refine x_aload_n (i := 2) (pc' := 5) rfl rfl rfl rfl ?_
  refine m_getf (i := 3) (pc' := 8) rfl rfl flX9_12 (sh1 G) rfl rfl ?_
  refine m_callV (i := 4) (pc' := 11) (av := [_]) (rest := []) rfl rfl (by decide) lX9_29 (sh18 G) rfl rfl rfl rfl rfl (Nat.le_of_ble_eq_true rfl) (Nat.le_refl _) (Nat.le_refl _) (s_X3_copyFrom_17_1 ?_)
  dsimp only [psh]
  refine x_aload_n (i := 5) (pc' := 12) rfl rfl rfl rfl ?_
  refine m_getf (i := 6) (pc' := 15) rfl rfl flX9_21 (sh17 G) rfl rfl ?_
  refine x_aload_n (i := 7) (pc' := 16) rfl rfl rfl rfl ?_
  refine m_getf (i := 8) (pc' := 19) rfl rfl flX9_21 (sh1 G) rfl rfl ?_
  refine m_callV (i := 9) (pc' := 22) (av := [_]) (rest := []) rfl rfl (by decide) lX9_33 (sh21 G) rfl rfl rfl rfl rfl (Nat.le_of_ble_eq_true rfl) (Nat.le_refl _) (Nat.le_refl _) (s_X8_copyFrom_17_1 ?_)
  dsimp only [psh]
  refine x_aload_n (i := 10) (pc' := 23) rfl rfl rfl rfl ?_
  refine m_getf (i := 11) (pc' := 26) rfl rfl flX9_25 (sh1 G) rfl rfl ?_
  refine x_iconst (i := 12) (pc' := 27) rfl rfl ?_
  refine x_aload_n (i := 13) (pc' := 28) rfl rfl rfl rfl ?_
  refine m_getf (i := 14) (pc' := 31) rfl rfl flX9_25 (sh17 G) rfl rfl ?_
  refine x_iconst (i := 15) (pc' := 32) rfl rfl ?_
  refine x_bipush (i := 16) (pc' := 34) rfl rfl (by decide) ?_
  refine m_copy (i := 17) (pc' := 37) rfl rfl (by decide) acX9_36 (sh7 G) (sh23 G) (by decide) (by decide) (by decide) (by decide) (by decide) (by decide) (by decide) (Nat.le_of_ble_eq_true rfl) ac_n ac_s ac_i ?_
  exact m_return (i := 18) rfl rfl (hQ)
theorem s_X3_copyFrom_24_1 {G : GG} {m : Mem} {Q : Option Value → Mem → Prop}  (hQ : Q none (let m1 := sr m 26 (cpr (m 3) (m 26) 0 0 85); let m2 := sr m1 27 (cpr (m1 4) (m1 27) 0 0 4); stm m2 25 2 (m2 2 2))) : CM G 1 mX3_copyFrom [.ref (G.2.2.2 25), .ref (G.2.2.2 2)] m Q := by
  refine CM.of dkX3_copyFrom (Or.inl rfl) [some _, some _] rfl (Nat.le_of_ble_eq_true rfl) ?_
  refine x_aload_n (i := 0) (pc' := 1) rfl rfl rfl rfl ?_
  refine m_getf (i := 1) (pc' := 4) rfl rfl flX3_9 (sh2 G) rfl rfl ?_
  refine x_iconst (i := 2) (pc' := 5) rfl rfl ?_
  refine x_aload_n (i := 3) (pc' := 6) rfl rfl rfl rfl ?_
  refine m_getf (i := 4) (pc' := 9) rfl rfl flX3_9 (sh25 G) rfl rfl ?_
  refine x_iconst (i := 5) (pc' := 10) rfl rfl ?_
  refine x_aload_n (i := 6) (pc' := 11) rfl rfl rfl rfl ?_
  refine m_getf (i := 7) (pc' := 14) rfl rfl flX3_9 (sh25 G) rfl rfl ?_
  refine m_alen (i := 8) (pc' := 15) rfl rfl (sh26 G) ?_
  refine m_copy (i := 9) (pc' := 18) rfl rfl (by decide) acX3_22 (sh3 G) (sh26 G) (by decide) (by decide) (by decide) (by decide) (by decide) (by decide) (by decide) (Nat.le_of_ble_eq_true rfl) ac_n ac_s ac_i ?_
  refine x_aload_n (i := 10) (pc' := 19) rfl rfl rfl rfl ?_
  refine m_getf (i := 11) (pc' := 22) rfl rfl flX3_15 (sh2 G) rfl rfl ?_
  refine x_iconst (i := 12) (pc' := 23) rfl rfl ?_
  refine x_aload_n (i := 13) (pc' := 24) rfl rfl rfl rfl ?_
  refine m_getf (i := 14) (pc' := 27) rfl rfl flX3_15 (sh25 G) rfl rfl ?_
  refine x_iconst (i := 15) (pc' := 28) rfl rfl ?_
  refine x_iconst (i := 16) (pc' := 29) rfl rfl ?_
  refine m_copy (i := 17) (pc' := 32) rfl rfl (by decide) acX3_22 (sh4 G) (sh27 G) (by decide) (by decide) (by decide) (by decide) (by decide) (by decide) (by decide) (Nat.le_of_ble_eq_true rfl) ac_n ac_s ac_i ?_
  refine x_aload_n (i := 18) (pc' := 33) rfl rfl rfl rfl ?_
  refine x_aload_n (i := 19) (pc' := 34) rfl rfl rfl rfl ?_
  refine m_getf (i := 20) (pc' := 37) rfl rfl flX3_18 (sh2 G) rfl rfl ?_
  refine m_putf (kz := 2) (i := 21) (pc' := 40) rfl rfl flX3_18 (sh25 G) (fun _ => rfl) rfl (Nat.le_of_ble_eq_true rfl) rfl rfl ?_
  exact m_return (i := 22) rfl rfl (hQ)
theorem s_X8_copyFrom_24_1 {G : GG} {m : Mem} {Q : Option Value → Mem → Prop}  (hQ : Q none (let m1 := sr m 29 (cpr (m 6) (m 29) 0 0 48); stm m1 28 1 (m1 5 1))) : CM G 1 mX8_copyFrom [.ref (G.2.2.2 28), .ref (G.2.2.2 5)] m Q := by
  refine CM.of dkX8_copyFrom (Or.inl rfl) [some _, some _] rfl (Nat.le_of_ble_eq_true rfl) ?_
  refine x_aload_n (i := 0) (pc' := 1) rfl rfl rfl rfl ?_
  refine m_getf (i := 1) (pc' := 4) rfl rfl flX8_11 (sh5 G) rfl rfl ?_
  refine x_iconst (i := 2) (pc' := 5) rfl rfl ?_
  refine x_aload_n (i := 3) (pc' := 6) rfl rfl rfl rfl ?_
  refine m_getf (i := 4) (pc' := 9) rfl rfl flX8_11 (sh28 G) rfl rfl ?_
  refine x_iconst (i := 5) (pc' := 10) rfl rfl ?_
  refine x_aload_n (i := 6) (pc' := 11) rfl rfl rfl rfl ?_
  refine m_getf (i := 7) (pc' := 14) rfl rfl flX8_11 (sh28 G) rfl rfl ?_
  refine m_alen (i := 8) (pc' := 15) rfl rfl (sh29 G) ?_
  refine m_copy (i := 9) (pc' := 18) rfl rfl (by decide) acX8_19 (sh6 G) (sh29 G) (by decide) (by decide) (by decide) (by decide) (by decide) (by decide) (by decide) (Nat.le_of_ble_eq_true rfl) ac_n ac_s ac_i ?_
  refine x_aload_n (i := 10) (pc' := 19) rfl rfl rfl rfl ?_
  refine x_aload_n (i := 11) (pc' := 20) rfl rfl rfl rfl ?_
  refine m_getf (i := 12) (pc' := 23) rfl rfl flX8_15 (sh5 G) rfl rfl ?_
  refine m_putf (kz := 1) (i := 13) (pc' := 26) rfl rfl flX8_15 (sh28 G) (fun _ => rfl) rfl (Nat.le_of_ble_eq_true rfl) rfl rfl ?_
  exact m_return (i := 14) rfl rfl (hQ)
theorem s_X9_copyFrom_24_1 {G : GG} {m : Mem} {Q : Option Value → Mem → Prop}  (hQ : Q none (cps m 24 1)) : CM G 2 mX9_copyFrom [.ref (G.2.2.2 24), .ref (G.2.2.2 1)] m Q := by
  refine CM.of dkX9_copyFrom (Or.inl rfl) [some _, some _] rfl (Nat.le_of_ble_eq_true rfl) ?_
  refine x_aload_n (i := 0) (pc' := 1) rfl rfl rfl rfl ?_
  refine m_getf (i := 1) (pc' := 4) rfl rfl flX9_12 (sh24 G) rfl rfl ?_
  refine x_aload_n (i := 2) (pc' := 5) rfl rfl rfl rfl ?_
  refine m_getf (i := 3) (pc' := 8) rfl rfl flX9_12 (sh1 G) rfl rfl ?_
  refine m_callV (i := 4) (pc' := 11) (av := [_]) (rest := []) rfl rfl (by decide) lX9_29 (sh25 G) rfl rfl rfl rfl rfl (Nat.le_of_ble_eq_true rfl) (Nat.le_refl _) (Nat.le_refl _) (s_X3_copyFrom_24_1 ?_)
  dsimp only [psh]
  refine x_aload_n (i := 5) (pc' := 12) rfl rfl rfl rfl ?_
  refine m_getf (i := 6) (pc' := 15) rfl rfl flX9_21 (sh24 G) rfl rfl ?_
  refine x_aload_n (i := 7) (pc' := 16) rfl rfl rfl rfl ?_
  refine m_getf (i := 8) (pc' := 19) rfl rfl flX9_21 (sh1 G) rfl rfl ?_
  refine m_callV (i := 9) (pc' := 22) (av := [_]) (rest := []) rfl rfl (by decide) lX9_33 (sh28 G) rfl rfl rfl rfl rfl (Nat.le_of_ble_eq_true rfl) (Nat.le_refl _) (Nat.le_refl _) (s_X8_copyFrom_24_1 ?_)
  dsimp only [psh]
  refine x_aload_n (i := 10) (pc' := 23) rfl rfl rfl rfl ?_
  refine m_getf (i := 11) (pc' := 26) rfl rfl flX9_25 (sh1 G) rfl rfl ?_
  refine x_iconst (i := 12) (pc' := 27) rfl rfl ?_
  refine x_aload_n (i := 13) (pc' := 28) rfl rfl rfl rfl ?_
  refine m_getf (i := 14) (pc' := 31) rfl rfl flX9_25 (sh24 G) rfl rfl ?_
  refine x_iconst (i := 15) (pc' := 32) rfl rfl ?_
  refine x_bipush (i := 16) (pc' := 34) rfl rfl (by decide) ?_
  refine m_copy (i := 17) (pc' := 37) rfl rfl (by decide) acX9_36 (sh7 G) (sh30 G) (by decide) (by decide) (by decide) (by decide) (by decide) (by decide) (by decide) (Nat.le_of_ble_eq_true rfl) ac_n ac_s ac_i ?_
  exact m_return (i := 18) rfl rfl (hQ)
theorem s_X3_copyFrom_31_1 {G : GG} {m : Mem} {Q : Option Value → Mem → Prop}  (hQ : Q none (let m1 := sr m 33 (cpr (m 3) (m 33) 0 0 85); let m2 := sr m1 34 (cpr (m1 4) (m1 34) 0 0 4); stm m2 32 2 (m2 2 2))) : CM G 1 mX3_copyFrom [.ref (G.2.2.2 32), .ref (G.2.2.2 2)] m Q := by
  refine CM.of dkX3_copyFrom (Or.inl rfl) [some _, some _] rfl (Nat.le_of_ble_eq_true rfl) ?_
  refine x_aload_n (i := 0) (pc' := 1) rfl rfl rfl rfl ?_
  refine m_getf (i := 1) (pc' := 4) rfl rfl flX3_9 (sh2 G) rfl rfl ?_
  refine x_iconst (i := 2) (pc' := 5) rfl rfl ?_
  refine x_aload_n (i := 3) (pc' := 6) rfl rfl rfl rfl ?_
  refine m_getf (i := 4) (pc' := 9) rfl rfl flX3_9 (sh32 G) rfl rfl ?_
  refine x_iconst (i := 5) (pc' := 10) rfl rfl ?_
  refine x_aload_n (i := 6) (pc' := 11) rfl rfl rfl rfl ?_
  refine m_getf (i := 7) (pc' := 14) rfl rfl flX3_9 (sh32 G) rfl rfl ?_
  refine m_alen (i := 8) (pc' := 15) rfl rfl (sh33 G) ?_
  refine m_copy (i := 9) (pc' := 18) rfl rfl (by decide) acX3_22 (sh3 G) (sh33 G) (by decide) (by decide) (by decide) (by decide) (by decide) (by decide) (by decide) (Nat.le_of_ble_eq_true rfl) ac_n ac_s ac_i ?_
  refine x_aload_n (i := 10) (pc' := 19) rfl rfl rfl rfl ?_
  refine m_getf (i := 11) (pc' := 22) rfl rfl flX3_15 (sh2 G) rfl rfl ?_
  refine x_iconst (i := 12) (pc' := 23) rfl rfl ?_
  refine x_aload_n (i := 13) (pc' := 24) rfl rfl rfl rfl ?_
  refine m_getf (i := 14) (pc' := 27) rfl rfl flX3_15 (sh32 G) rfl rfl ?_
  refine x_iconst (i := 15) (pc' := 28) rfl rfl ?_
  refine x_iconst (i := 16) (pc' := 29) rfl rfl ?_
  refine m_copy (i := 17) (pc' := 32) rfl rfl (by decide) acX3_22 (sh4 G) (sh34 G) (by decide) (by decide) (by decide) (by decide) (by decide) (by decide) (by decide) (Nat.le_of_ble_eq_true rfl) ac_n ac_s ac_i ?_
  refine x_aload_n (i := 18) (pc' := 33) rfl rfl rfl rfl ?_
  refine x_aload_n (i := 19) (pc' := 34) rfl rfl rfl rfl ?_
  refine m_getf (i := 20) (pc' := 37) rfl rfl flX3_18 (sh2 G) rfl rfl ?_
  refine m_putf (kz := 2) (i := 21) (pc' := 40) rfl rfl flX3_18 (sh32 G) (fun _ => rfl) rfl (Nat.le_of_ble_eq_true rfl) rfl rfl ?_
  exact m_return (i := 22) rfl rfl (hQ)
theorem s_X8_copyFrom_31_1 {G : GG} {m : Mem} {Q : Option Value → Mem → Prop}  (hQ : Q none (let m1 := sr m 36 (cpr (m 6) (m 36) 0 0 48); stm m1 35 1 (m1 5 1))) : CM G 1 mX8_copyFrom [.ref (G.2.2.2 35), .ref (G.2.2.2 5)] m Q := by
  refine CM.of dkX8_copyFrom (Or.inl rfl) [some _, some _] rfl (Nat.le_of_ble_eq_true rfl) ?_
  refine x_aload_n (i := 0) (pc' := 1) rfl rfl rfl rfl ?_
  refine m_getf (i := 1) (pc' := 4) rfl rfl flX8_11 (sh5 G) rfl rfl ?_
  refine x_iconst (i := 2) (pc' := 5) rfl rfl ?_
  refine x_aload_n (i := 3) (pc' := 6) rfl rfl rfl rfl ?_
  refine m_getf (i := 4) (pc' := 9) rfl rfl flX8_11 (sh35 G) rfl rfl ?_
  refine x_iconst (i := 5) (pc' := 10) rfl rfl ?_
  refine x_aload_n (i := 6) (pc' := 11) rfl rfl rfl rfl ?_
  refine m_getf (i := 7) (pc' := 14) rfl rfl flX8_11 (sh35 G) rfl rfl ?_
  refine m_alen (i := 8) (pc' := 15) rfl rfl (sh36 G) ?_
  refine m_copy (i := 9) (pc' := 18) rfl rfl (by decide) acX8_19 (sh6 G) (sh36 G) (by decide) (by decide) (by decide) (by decide) (by decide) (by decide) (by decide) (Nat.le_of_ble_eq_true rfl) ac_n ac_s ac_i ?_
  refine x_aload_n (i := 10) (pc' := 19) rfl rfl rfl rfl ?_
  refine x_aload_n (i := 11) (pc' := 20) rfl rfl rfl rfl ?_
  refine m_getf (i := 12) (pc' := 23) rfl rfl flX8_15 (sh5 G) rfl rfl ?_
  refine m_putf (kz := 1) (i := 13) (pc' := 26) rfl rfl flX8_15 (sh35 G) (fun _ => rfl) rfl (Nat.le_of_ble_eq_true rfl) rfl rfl ?_
  exact m_return (i := 14) rfl rfl (hQ)
theorem s_X9_copyFrom_31_1 {G : GG} {m : Mem} {Q : Option Value → Mem → Prop}  (hQ : Q none (cps m 31 1)) : CM G 2 mX9_copyFrom [.ref (G.2.2.2 31), .ref (G.2.2.2 1)] m Q := by
  refine CM.of dkX9_copyFrom (Or.inl rfl) [some _, some _] rfl (Nat.le_of_ble_eq_true rfl) ?_
  refine x_aload_n (i := 0) (pc' := 1) rfl rfl rfl rfl ?_
  refine m_getf (i := 1) (pc' := 4) rfl rfl flX9_12 (sh31 G) rfl rfl ?_
  refine x_aload_n (i := 2) (pc' := 5) rfl rfl rfl rfl ?_
  refine m_getf (i := 3) (pc' := 8) rfl rfl flX9_12 (sh1 G) rfl rfl ?_
  refine m_callV (i := 4) (pc' := 11) (av := [_]) (rest := []) rfl rfl (by decide) lX9_29 (sh32 G) rfl rfl rfl rfl rfl (Nat.le_of_ble_eq_true rfl) (Nat.le_refl _) (Nat.le_refl _) (s_X3_copyFrom_31_1 ?_)
  dsimp only [psh]
  refine x_aload_n (i := 5) (pc' := 12) rfl rfl rfl rfl ?_
  refine m_getf (i := 6) (pc' := 15) rfl rfl flX9_21 (sh31 G) rfl rfl ?_
  refine x_aload_n (i := 7) (pc' := 16) rfl rfl rfl rfl ?_
  refine m_getf (i := 8) (pc' := 19) rfl rfl flX9_21 (sh1 G) rfl rfl ?_
  refine m_callV (i := 9) (pc' := 22) (av := [_]) (rest := []) rfl rfl (by decide) lX9_33 (sh35 G) rfl rfl rfl rfl rfl (Nat.le_of_ble_eq_true rfl) (Nat.le_refl _) (Nat.le_refl _) (s_X8_copyFrom_31_1 ?_)
  dsimp only [psh]
  refine x_aload_n (i := 10) (pc' := 23) rfl rfl rfl rfl ?_
  refine m_getf (i := 11) (pc' := 26) rfl rfl flX9_25 (sh1 G) rfl rfl ?_
  refine x_iconst (i := 12) (pc' := 27) rfl rfl ?_
  refine x_aload_n (i := 13) (pc' := 28) rfl rfl rfl rfl ?_
  refine m_getf (i := 14) (pc' := 31) rfl rfl flX9_25 (sh31 G) rfl rfl ?_
  refine x_iconst (i := 15) (pc' := 32) rfl rfl ?_
  refine x_bipush (i := 16) (pc' := 34) rfl rfl (by decide) ?_
  refine m_copy (i := 17) (pc' := 37) rfl rfl (by decide) acX9_36 (sh7 G) (sh37 G) (by decide) (by decide) (by decide) (by decide) (by decide) (by decide) (by decide) (Nat.le_of_ble_eq_true rfl) ac_n ac_s ac_i ?_
  exact m_return (i := 18) rfl rfl (hQ)
theorem s_X3_copyFrom_38_1 {G : GG} {m : Mem} {Q : Option Value → Mem → Prop}  (hQ : Q none (let m1 := sr m 40 (cpr (m 3) (m 40) 0 0 85); let m2 := sr m1 41 (cpr (m1 4) (m1 41) 0 0 4); stm m2 39 2 (m2 2 2))) : CM G 1 mX3_copyFrom [.ref (G.2.2.2 39), .ref (G.2.2.2 2)] m Q := by
  refine CM.of dkX3_copyFrom (Or.inl rfl) [some _, some _] rfl (Nat.le_of_ble_eq_true rfl) ?_
  refine x_aload_n (i := 0) (pc' := 1) rfl rfl rfl rfl ?_
  refine m_getf (i := 1) (pc' := 4) rfl rfl flX3_9 (sh2 G) rfl rfl ?_
  refine x_iconst (i := 2) (pc' := 5) rfl rfl ?_
  refine x_aload_n (i := 3) (pc' := 6) rfl rfl rfl rfl ?_
  refine m_getf (i := 4) (pc' := 9) rfl rfl flX3_9 (sh39 G) rfl rfl ?_
  refine x_iconst (i := 5) (pc' := 10) rfl rfl ?_
  refine x_aload_n (i := 6) (pc' := 11) rfl rfl rfl rfl ?_
  refine m_getf (i := 7) (pc' := 14) rfl rfl flX3_9 (sh39 G) rfl rfl ?_
  refine m_alen (i := 8) (pc' := 15) rfl rfl (sh40 G) ?_
  refine m_copy (i := 9) (pc' := 18) rfl rfl (by decide) acX3_22 (sh3 G) (sh40 G) (by decide) (by decide) (by decide) (by decide) (by decide) (by decide) (by decide) (Nat.le_of_ble_eq_true rfl) ac_n ac_s ac_i ?_
  refine x_aload_n (i := 10) (pc' := 19) rfl rfl rfl rfl ?_
  refine m_getf (i := 11) (pc' := 22) rfl rfl flX3_15 (sh2 G) rfl rfl ?_
  refine x_iconst (i := 12) (pc' := 23) rfl rfl ?_
  refine x_aload_n (i := 13) (pc' := 24) rfl rfl rfl rfl ?_
  refine m_getf (i := 14) (pc' := 27) rfl rfl flX3_15 (sh39 G) rfl rfl ?_
  refine x_iconst (i := 15) (pc' := 28) rfl rfl ?_
  refine x_iconst (i := 16) (pc' := 29) rfl rfl ?_
  refine m_copy (i := 17) (pc' := 32) rfl rfl (by decide) acX3_22 (sh4 G) (sh41 G) (by decide) (by decide) (by decide) (by decide) (by decide) (by decide) (by decide) (Nat.le_of_ble_eq_true rfl) ac_n ac_s ac_i ?_
  refine x_aload_n (i := 18) (pc' := 33) rfl rfl rfl rfl ?_
  refine x_aload_n (i := 19) (pc' := 34) rfl rfl rfl rfl ?_
  refine m_getf (i := 20) (pc' := 37) rfl rfl flX3_18 (sh2 G) rfl rfl ?_
  refine m_putf (kz := 2) (i := 21) (pc' := 40) rfl rfl flX3_18 (sh39 G) (fun _ => rfl) rfl (Nat.le_of_ble_eq_true rfl) rfl rfl ?_
  exact m_return (i := 22) rfl rfl (hQ)
theorem s_X8_copyFrom_38_1 {G : GG} {m : Mem} {Q : Option Value → Mem → Prop}  (hQ : Q none (let m1 := sr m 43 (cpr (m 6) (m 43) 0 0 48); stm m1 42 1 (m1 5 1))) : CM G 1 mX8_copyFrom [.ref (G.2.2.2 42), .ref (G.2.2.2 5)] m Q := by
  refine CM.of dkX8_copyFrom (Or.inl rfl) [some _, some _] rfl (Nat.le_of_ble_eq_true rfl) ?_
  refine x_aload_n (i := 0) (pc' := 1) rfl rfl rfl rfl ?_
  refine m_getf (i := 1) (pc' := 4) rfl rfl flX8_11 (sh5 G) rfl rfl ?_
  refine x_iconst (i := 2) (pc' := 5) rfl rfl ?_
  refine x_aload_n (i := 3) (pc' := 6) rfl rfl rfl rfl ?_
  refine m_getf (i := 4) (pc' := 9) rfl rfl flX8_11 (sh42 G) rfl rfl ?_
  refine x_iconst (i := 5) (pc' := 10) rfl rfl ?_
  refine x_aload_n (i := 6) (pc' := 11) rfl rfl rfl rfl ?_
  refine m_getf (i := 7) (pc' := 14) rfl rfl flX8_11 (sh42 G) rfl rfl ?_
  refine m_alen (i := 8) (pc' := 15) rfl rfl (sh43 G) ?_
  refine m_copy (i := 9) (pc' := 18) rfl rfl (by decide) acX8_19 (sh6 G) (sh43 G) (by decide) (by decide) (by decide) (by decide) (by decide) (by decide) (by decide) (Nat.le_of_ble_eq_true rfl) ac_n ac_s ac_i ?_
  refine x_aload_n (i := 10) (pc' := 19) rfl rfl rfl rfl ?_
  refine x_aload_n (i := 11) (pc' := 20) rfl rfl rfl rfl ?_
  refine m_getf (i := 12) (pc' := 23) rfl rfl flX8_15 (sh5 G) rfl rfl ?_
  refine m_putf (kz := 1) (i := 13) (pc' := 26) rfl rfl flX8_15 (sh42 G) (fun _ => rfl) rfl (Nat.le_of_ble_eq_true rfl) rfl rfl ?_
  exact m_return (i := 14) rfl rfl (hQ)
theorem s_X9_copyFrom_38_1 {G : GG} {m : Mem} {Q : Option Value → Mem → Prop}  (hQ : Q none (cps m 38 1)) : CM G 2 mX9_copyFrom [.ref (G.2.2.2 38), .ref (G.2.2.2 1)] m Q := by
  refine CM.of dkX9_copyFrom (Or.inl rfl) [some _, some _] rfl (Nat.le_of_ble_eq_true rfl) ?_
  refine x_aload_n (i := 0) (pc' := 1) rfl rfl rfl rfl ?_
  refine m_getf (i := 1) (pc' := 4) rfl rfl flX9_12 (sh38 G) rfl rfl ?_
  refine x_aload_n (i := 2) (pc' := 5) rfl rfl rfl rfl ?_
  refine m_getf (i := 3) (pc' := 8) rfl rfl flX9_12 (sh1 G) rfl rfl ?_
  refine m_callV (i := 4) (pc' := 11) (av := [_]) (rest := []) rfl rfl (by decide) lX9_29 (sh39 G) rfl rfl rfl rfl rfl (Nat.le_of_ble_eq_true rfl) (Nat.le_refl _) (Nat.le_refl _) (s_X3_copyFrom_38_1 ?_)
  dsimp only [psh]
  refine x_aload_n (i := 5) (pc' := 12) rfl rfl rfl rfl ?_
  refine m_getf (i := 6) (pc' := 15) rfl rfl flX9_21 (sh38 G) rfl rfl ?_
  refine x_aload_n (i := 7) (pc' := 16) rfl rfl rfl rfl ?_
  refine m_getf (i := 8) (pc' := 19) rfl rfl flX9_21 (sh1 G) rfl rfl ?_
  refine m_callV (i := 9) (pc' := 22) (av := [_]) (rest := []) rfl rfl (by decide) lX9_33 (sh42 G) rfl rfl rfl rfl rfl (Nat.le_of_ble_eq_true rfl) (Nat.le_refl _) (Nat.le_refl _) (s_X8_copyFrom_38_1 ?_)
  dsimp only [psh]
  refine x_aload_n (i := 10) (pc' := 23) rfl rfl rfl rfl ?_
  refine m_getf (i := 11) (pc' := 26) rfl rfl flX9_25 (sh1 G) rfl rfl ?_
  refine x_iconst (i := 12) (pc' := 27) rfl rfl ?_
  refine x_aload_n (i := 13) (pc' := 28) rfl rfl rfl rfl ?_
  refine m_getf (i := 14) (pc' := 31) rfl rfl flX9_25 (sh38 G) rfl rfl ?_
  refine x_iconst (i := 15) (pc' := 32) rfl rfl ?_
  refine x_bipush (i := 16) (pc' := 34) rfl rfl (by decide) ?_
  refine m_copy (i := 17) (pc' := 37) rfl rfl (by decide) acX9_36 (sh7 G) (sh44 G) (by decide) (by decide) (by decide) (by decide) (by decide) (by decide) (by decide) (Nat.le_of_ble_eq_true rfl) ac_n ac_s ac_i ?_
  exact m_return (i := 18) rfl rfl (hQ)
theorem s_X3_copyFrom_45_1 {G : GG} {m : Mem} {Q : Option Value → Mem → Prop}  (hQ : Q none (let m1 := sr m 47 (cpr (m 3) (m 47) 0 0 85); let m2 := sr m1 48 (cpr (m1 4) (m1 48) 0 0 4); stm m2 46 2 (m2 2 2))) : CM G 1 mX3_copyFrom [.ref (G.2.2.2 46), .ref (G.2.2.2 2)] m Q := by
  refine CM.of dkX3_copyFrom (Or.inl rfl) [some _, some _] rfl (Nat.le_of_ble_eq_true rfl) ?_
  refine x_aload_n (i := 0) (pc' := 1) rfl rfl rfl rfl ?_
  refine m_getf (i := 1) (pc' := 4) rfl rfl flX3_9 (sh2 G) rfl rfl ?_
  refine x_iconst (i := 2) (pc' := 5) rfl rfl ?_
  refine x_aload_n (i := 3) (pc' := 6) rfl rfl rfl rfl ?_
  refine m_getf (i := 4) (pc' := 9) rfl rfl flX3_9 (sh46 G) rfl rfl ?_
  refine x_iconst (i := 5) (pc' := 10) rfl rfl ?_
  refine x_aload_n (i := 6) (pc' := 11) rfl rfl rfl rfl ?_
  refine m_getf (i := 7) (pc' := 14) rfl rfl flX3_9 (sh46 G) rfl rfl ?_
  refine m_alen (i := 8) (pc' := 15) rfl rfl (sh47 G) ?_
  refine m_copy (i := 9) (pc' := 18) rfl rfl (by decide) acX3_22 (sh3 G) (sh47 G) (by decide) (by decide) (by decide) (by decide) (by decide) (by decide) (by decide) (Nat.le_of_ble_eq_true rfl) ac_n ac_s ac_i ?_
  refine x_aload_n (i := 10) (pc' := 19) rfl rfl rfl rfl ?_
  refine m_getf (i := 11) (pc' := 22) rfl rfl flX3_15 (sh2 G) rfl rfl ?_
  refine x_iconst (i := 12) (pc' := 23) rfl rfl ?_
  refine x_aload_n (i := 13) (pc' := 24) rfl rfl rfl rfl ?_
  refine m_getf (i := 14) (pc' := 27) rfl rfl flX3_15 (sh46 G) rfl rfl ?_
  refine x_iconst (i := 15) (pc' := 28) rfl rfl ?_
  refine x_iconst (i := 16) (pc' := 29) rfl rfl ?_
  refine m_copy (i := 17) (pc' := 32) rfl rfl (by decide) acX3_22 (sh4 G) (sh48 G) (by decide) (by decide) (by decide) (by decide) (by decide) (by decide) (by decide) (Nat.le_of_ble_eq_true rfl) ac_n ac_s ac_i ?_
  refine x_aload_n (i := 18) (pc' := 33) rfl rfl rfl rfl ?_
  refine x_aload_n (i := 19) (pc' := 34) rfl rfl rfl rfl ?_
  refine m_getf (i := 20) (pc' := 37) rfl rfl flX3_18 (sh2 G) rfl rfl ?_
  refine m_putf (kz := 2) (i := 21) (pc' := 40) rfl rfl flX3_18 (sh46 G) (fun _ => rfl) rfl (Nat.le_of_ble_eq_true rfl) rfl rfl ?_
  exact m_return (i := 22) rfl rfl (hQ)
theorem s_X8_copyFrom_45_1 {G : GG} {m : Mem} {Q : Option Value → Mem → Prop}  (hQ : Q none (let m1 := sr m 50 (cpr (m 6) (m 50) 0 0 48); stm m1 49 1 (m1 5 1))) : CM G 1 mX8_copyFrom [.ref (G.2.2.2 49), .ref (G.2.2.2 5)] m Q := by
  refine CM.of dkX8_copyFrom (Or.inl rfl) [some _, some _] rfl (Nat.le_of_ble_eq_true rfl) ?_
  refine x_aload_n (i := 0) (pc' := 1) rfl rfl rfl rfl ?_
  refine m_getf (i := 1) (pc' := 4) rfl rfl flX8_11 (sh5 G) rfl rfl ?_
  refine x_iconst (i := 2) (pc' := 5) rfl rfl ?_
  refine x_aload_n (i := 3) (pc' := 6) rfl rfl rfl rfl ?_
  refine m_getf (i := 4) (pc' := 9) rfl rfl flX8_11 (sh49 G) rfl rfl ?_
  refine x_iconst (i := 5) (pc' := 10) rfl rfl ?_
  refine x_aload_n (i := 6) (pc' := 11) rfl rfl rfl rfl ?_
  refine m_getf (i := 7) (pc' := 14) rfl rfl flX8_11 (sh49 G) rfl rfl ?_
  refine m_alen (i := 8) (pc' := 15) rfl rfl (sh50 G) ?_
  refine m_copy (i := 9) (pc' := 18) rfl rfl (by decide) acX8_19 (sh6 G) (sh50 G) (by decide) (by decide) (by decide) (by decide) (by decide) (by decide) (by decide) (Nat.le_of_ble_eq_true rfl) ac_n ac_s ac_i ?_
  refine x_aload_n (i := 10) (pc' := 19) rfl rfl rfl rfl ?_
  refine x_aload_n (i := 11) (pc' := 20) rfl rfl rfl rfl ?_
  refine m_getf (i := 12) (pc' := 23) rfl rfl flX8_15 (sh5 G) rfl rfl ?_
  refine m_putf (kz := 1) (i := 13) (pc' := 26) rfl rfl flX8_15 (sh49 G) (fun _ => rfl) rfl (Nat.le_of_ble_eq_true rfl) rfl rfl ?_
  exact m_return (i := 14) rfl rfl (hQ)
theorem s_X9_copyFrom_45_1 {G : GG} {m : Mem} {Q : Option Value → Mem → Prop}  (hQ : Q none (cps m 45 1)) : CM G 2 mX9_copyFrom [.ref (G.2.2.2 45), .ref (G.2.2.2 1)] m Q := by
  refine CM.of dkX9_copyFrom (Or.inl rfl) [some _, some _] rfl (Nat.le_of_ble_eq_true rfl) ?_
  refine x_aload_n (i := 0) (pc' := 1) rfl rfl rfl rfl ?_
  refine m_getf (i := 1) (pc' := 4) rfl rfl flX9_12 (sh45 G) rfl rfl ?_
  refine x_aload_n (i := 2) (pc' := 5) rfl rfl rfl rfl ?_
  refine m_getf (i := 3) (pc' := 8) rfl rfl flX9_12 (sh1 G) rfl rfl ?_
  refine m_callV (i := 4) (pc' := 11) (av := [_]) (rest := []) rfl rfl (by decide) lX9_29 (sh46 G) rfl rfl rfl rfl rfl (Nat.le_of_ble_eq_true rfl) (Nat.le_refl _) (Nat.le_refl _) (s_X3_copyFrom_45_1 ?_)
  dsimp only [psh]
  refine x_aload_n (i := 5) (pc' := 12) rfl rfl rfl rfl ?_
  refine m_getf (i := 6) (pc' := 15) rfl rfl flX9_21 (sh45 G) rfl rfl ?_
  refine x_aload_n (i := 7) (pc' := 16) rfl rfl rfl rfl ?_
  refine m_getf (i := 8) (pc' := 19) rfl rfl flX9_21 (sh1 G) rfl rfl ?_
  refine m_callV (i := 9) (pc' := 22) (av := [_]) (rest := []) rfl rfl (by decide) lX9_33 (sh49 G) rfl rfl rfl rfl rfl (Nat.le_of_ble_eq_true rfl) (Nat.le_refl _) (Nat.le_refl _) (s_X8_copyFrom_45_1 ?_)
  dsimp only [psh]
  refine x_aload_n (i := 10) (pc' := 23) rfl rfl rfl rfl ?_
  refine m_getf (i := 11) (pc' := 26) rfl rfl flX9_25 (sh1 G) rfl rfl ?_
  refine x_iconst (i := 12) (pc' := 27) rfl rfl ?_
  refine x_aload_n (i := 13) (pc' := 28) rfl rfl rfl rfl ?_
  refine m_getf (i := 14) (pc' := 31) rfl rfl flX9_25 (sh45 G) rfl rfl ?_
  refine x_iconst (i := 15) (pc' := 32) rfl rfl ?_
  refine x_bipush (i := 16) (pc' := 34) rfl rfl (by decide) ?_
  refine m_copy (i := 17) (pc' := 37) rfl rfl (by decide) acX9_36 (sh7 G) (sh51 G) (by decide) (by decide) (by decide) (by decide) (by decide) (by decide) (by decide) (Nat.le_of_ble_eq_true rfl) ac_n ac_s ac_i ?_
  exact m_return (i := 18) rfl rfl (hQ)
