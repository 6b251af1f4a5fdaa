theorem ipm_I {m : Mem} (hM : MR m) (hs : SN m) {w : Int} (hw : 0 ≤ w ∧ w ≤ 16) : SW m (ipm m w) ∧ MR (ipm m w) := by
  have h1 := hs.1; have h2 := hs.2
  have hmn : 0 ≤ mn w (m 5 1) ∧ mn w (m 5 1) ≤ m 5 1 := (by unfold mn; split <;> omega)
  have h6 : ip0 m 57 6 = 0 := (by unfold ip0; rw [stm_ix _ _ _ (by decide), stm_eq])
  have := it_Ij (f := fun j x => ipr j x) (fun j x => IP m j x) (mn w (m 5 1)).toNat 0 (0, ip0 m) (fun i y a b c => ipr_I (by omega) c) ⟨ip0_SW m, ip0_MR hM, by show (0 : Int) ≤ 0 ∧ (0 : Int) ≤ 0; decide, by show 0 ≤ ip0 m 57 6 ∧ ip0 m 57 6 ≤ 0; omega⟩
  exact ⟨this.1, this.2.1⟩
theorem ckt_I {m : Mem} (hM : MR m) (hs : SN m) : CKI m (m 5 1) (ckt m) := by
  have h1 := hs.1; have h2 := hs.2
  have := it_Ij (f := fun j x => ck j x) (fun j x => CKI m j x) (m 5 1).toNat 0 ((0, 0), stm (stm m 63 0 0) 63 1 0) (fun i y a b c => ck_I (by omega) c) ⟨((SW.rf m).st (by decide) _ _).st (by decide) _ _, (hM.st (by decide)).st (by decide), by (show (0 : Int) ≤ 0 ∧ (0 : Int) ≤ 0; decide), by (show (0 : Int) ≤ 0 ∧ (0 : Int) ≤ 0; decide), by (show 0 ≤ stm (stm m 63 0 0) 63 1 0 63 0 ∧ stm (stm m 63 0 0) 63 1 0 63 0 ≤ 0 * 16; rw [stm_ix _ _ _ (by decide), stm_eq]; omega), by (show 0 ≤ stm (stm m 63 0 0) 63 1 0 63 1 ∧ stm (stm m 63 0 0) 63 1 0 63 1 ≤ 0 * 16; rw [stm_eq]; omega)⟩
  rw [show (0 : Int) + ((m 5 1).toNat : Int) = m 5 1 by omega] at this
  exact this
theorem ckm_I {m : Mem} (hM : MR m) (hs : SN m) : SW m (ckm m) ∧ MR (ckm m) := by
  have h1 := hs.1; have h2 := hs.2
  obtain ⟨a1, a2, a3, a4, a5, a6⟩ := ckt_I hM hs
  exact ⟨a1.st (by decide) _ _, a2.st (by omega)⟩
theorem fwm_I {m : Mem} (hM : MR m) (hs : SN m) : PWI m (m 5 1) (fwm m) := by
  have h1 := hs.1; have h2 := hs.2
  have := it_Ij (f := fun j x => pw j x) (fun j x => PWI m j x) (m 5 1).toNat 0 (stm m 64 1 0) (fun i y a b c => pw_I (by omega) c) ⟨(SW.rf m).st (by decide) _ _, hM.st (by decide), by (rw [stm_eq]; decide), fun n h1 h2 => by (rw [stm_eq] at h2; omega)⟩
  rw [show (0 : Int) + ((m 5 1).toNat : Int) = m 5 1 by omega] at this
  exact this
def exm (m : Mem) : Mem := fwm (ckm (ipm m 16))
def fbm (m : Mem) : Mem := arm (fwm m)
theorem it_83 {f : Int → (Int × Int) × Mem → (Int × Int) × Mem} {q : Nat} (h : ∀ i x, (f i x).2 q = x.2 q) : ∀ (n : Nat) (j : Int) (x : (Int × Int) × Mem), (it f j n x).2 q = x.2 q
  | 0, _, _ => rfl
  | n + 1, j, x => by rw [it, it_83 h n]; exact h j x
theorem iw_ne (x : Mem) (i s : Int) {q : Nat} (h : q < 58 ∨ 62 < q) : iw x i s q = x q := by
  have h0 : iw0 x i q = x q := by unfold iw0; rw [stm_ne _ _ _ (by omega), stm_ne _ _ _ (by omega), stm_ne _ _ _ (by omega)]
  unfold iw
  split
  · split
    · rw [stm_ne _ _ _ (by omega), h0]
    · exact h0
  · split
    · rw [stm_ne _ _ _ (by omega), stm_ne _ _ _ (by omega), h0]
    · split
      · rw [stm_ne _ _ _ (by omega), stm_ne _ _ _ (by omega), stm_ne _ _ _ (by omega), h0]
      · exact h0
theorem ipr_ne (j : Int) (x : Int × Mem) {q : Nat} (h : q < 57 ∨ 62 < q) : (ipr j x).2 q = x.2 q := by
  have h2 : im2 j x q = x.2 q := by unfold im2; rw [stm_ne _ _ _ (by omega), stm_ne _ _ _ (by omega), iw_ne _ _ _ (by omega)]
  show (if im2 j x 60 j = 0 then im2 j x else stm (im2 j x) 57 6 (im2 j x 57 6 + 1)) q = _
  split
  · exact h2
  · rw [stm_ne _ _ _ (by omega)]; exact h2
theorem ipm_ne (m : Mem) (w : Int) {q : Nat} (h : q < 57 ∨ 62 < q) : ipm m w q = m q := by
  unfold ipm
  rw [it_82 (fun j x => ipr_ne j x h)]
  show ip0 m q = m q
  unfold ip0 flm
  rw [stm_ne _ _ _ (by omega), stm_ne _ _ _ (by omega), flm_ne (by omega)]
theorem ckm_ne (m : Mem) {q : Nat} (h : q ≠ 63) : ckm m q = m q := by
  unfold ckm ckt
  rw [stm_ne _ _ _ h, it_83 (q := q)]
  · show stm (stm m 63 0 0) 63 1 0 q = m q
    rw [stm_ne _ _ _ h, stm_ne _ _ _ h]
  · intro i x
    unfold ck
    split
    · exact stm_ne _ _ _ h
    · split
      · exact stm_ne _ _ _ h
      · rfl
theorem fwm_ne (m : Mem) {q : Nat} (h : q ≠ 64) (h2 : q ≠ 65) : fwm m q = m q := by
  unfold fwm
  rw [it_8 (q := q)]
  · exact stm_ne _ _ _ h
  · intro i x
    unfold pw
    rw [pa_ne _ _ h h2, pa_ne _ _ h h2]
theorem pfm_ne {q : Nat} (h : q ≠ 66 ∧ q ≠ 68 ∧ q ≠ 69) : ∀ (k : Nat) (s t l : Int) (m : Mem), pfm k s t l m q = m q
  | 0, s, t, l, m => by
    unfold pfm
    split
    · rfl
    · rw [sr_ne _ _ h.2.2, stm_ne _ _ _ h.1]
  | k + 1, s, t, l, m => by
    unfold pfm
    split
    · rfl
    · rw [it_8 (q := q)]
      intro i x
      split
      · rw [pfm_ne h k, stm_ne _ _ _ h.2.1]
      · rfl
theorem arm_ne (m : Mem) {q : Nat} (h : q < 66 ∨ 69 < q) : arm m q = m q := by
  unfold arm asm_
  rw [pfm_ne (by omega), stm_ne _ _ _ (by omega), it_8 (q := q)]
  · unfold flm; exact flm_ne (by omega) _ _ _ _
  · intro i x
    exact stm_ne _ _ _ (by omega)
theorem arm_I {m : Mem} (hM : MR m) (hc : 0 ≤ m 64 1 ∧ m 64 1 ≤ 32) (hp : ∀ n, 0 ≤ n → n < m 64 1 → 0 ≤ m 65 n ∧ m 65 n ≤ 5) (ht : TRL m) : PFI (arm m) := pfm_I 6 0 0 0 _ (by omega) (by omega) (by omega) (arm_0 hM hc hp ht)
theorem s_X11_examineSentence {G : GG} {m : Mem} {Q : Option Value → Mem → Prop} (hM : MR m) (hs : SN m) (hwd : WDS m) (hQ : Q none (exm m)) : CM G 5 mX11_examineSentence [.ref (G.2.2.2 0)] m Q := by
  refine CM.of dkX11_examineSentence (Or.inl rfl) [some _] rfl (Nat.le_of_ble_eq_true rfl) ?_
  obtain ⟨a1, a2⟩ := ipm_I hM hs (w := 16) (by omega)
  obtain ⟨b1, b2⟩ := ckm_I a2 (a1.sn hs)
  refine x_aload_n (i := 0) (pc' := 1) rfl rfl rfl rfl ?_
  refine m_getf (i := 1) (pc' := 4) rfl rfl flX11_33 (sh0 G) rfl rfl ?_
  refine x_aload_n (i := 2) (pc' := 5) rfl rfl rfl rfl ?_
  refine m_getf (i := 3) (pc' := 8) rfl rfl flX11_10 (sh0 G) rfl rfl ?_
  refine x_bipush (i := 4) (pc' := 10) rfl rfl (by decide) ?_
  refine m_callV (i := 5) (pc' := 13) (av := [_, _]) (rest := []) rfl rfl (by decide) lX11_195 (sh57 G) rfl rfl rfl rfl rfl (Nat.le_of_ble_eq_true rfl) (Nat.le_refl _) (Nat.le_refl _) (s_X4_interpret hM hs hwd (by omega) ?_)
  dsimp only [psh]
  refine x_aload_n (i := 6) (pc' := 14) rfl rfl rfl rfl ?_
  refine m_getf (i := 7) (pc' := 17) rfl rfl flX11_40 (sh0 G) rfl rfl ?_
  refine x_aload_n (i := 8) (pc' := 18) rfl rfl rfl rfl ?_
  refine m_getf (i := 9) (pc' := 21) rfl rfl flX11_10 (sh0 G) rfl rfl ?_
  refine m_callV (i := 10) (pc' := 24) (av := [_]) (rest := []) rfl rfl (by decide) lX11_295 (sh63 G) rfl rfl rfl rfl rfl (Nat.le_of_ble_eq_true rfl) (Nat.le_refl _) (Nat.le_refl _) (s_X10_check a2 (a1.sn hs) (a1.wds hwd) ?_)
  dsimp only [psh]
  refine x_aload_n (i := 11) (pc' := 25) rfl rfl rfl rfl ?_
  refine m_getf (i := 12) (pc' := 28) rfl rfl flX11_47 (sh0 G) rfl rfl ?_
  refine x_aload_n (i := 13) (pc' := 29) rfl rfl rfl rfl ?_
  refine m_getf (i := 14) (pc' := 32) rfl rfl flX11_10 (sh0 G) rfl rfl ?_
  refine m_getf (i := 15) (pc' := 35) rfl rfl flX11_179 (sh1 G) rfl rfl ?_
  refine m_callV (i := 16) (pc' := 38) (av := [_]) (rest := []) rfl rfl (by decide) lX11_298 (sh64 G) rfl rfl rfl rfl rfl (Nat.le_of_ble_eq_true rfl) (Nat.le_refl _) (Nat.le_refl _) (s_X6_follow b2 (b1.sn (a1.sn hs)) ?_)
  dsimp only [psh]
  exact m_return (i := 17) rfl rfl (hQ)
theorem s_X11_findBestArrangement {G : GG} {m : Mem} {Q : Option Value → Mem → Prop} (hM : MR m) (hs : SN m) (ht : TRL m) (hQ : Q none (fbm m)) : CM G 10 mX11_findBestArrangement [.ref (G.2.2.2 0)] m Q := by
  refine CM.of dkX11_findBestArrangement (Or.inl rfl) [some _] rfl (Nat.le_of_ble_eq_true rfl) ?_
  obtain ⟨a1, a2, a3, a4⟩ := fwm_I hM hs
  have h2 := hs.2
  have ht2 : TRL (fwm m) := (by unfold TRL; rw [fwm_ne _ (by decide) (by decide)]; exact ht)
  refine x_aload_n (i := 0) (pc' := 1) rfl rfl rfl rfl ?_
  refine m_getf (i := 1) (pc' := 4) rfl rfl flX11_47 (sh0 G) rfl rfl ?_
  refine x_aload_n (i := 2) (pc' := 5) rfl rfl rfl rfl ?_
  refine m_getf (i := 3) (pc' := 8) rfl rfl flX11_10 (sh0 G) rfl rfl ?_
  refine m_getf (i := 4) (pc' := 11) rfl rfl flX11_179 (sh1 G) rfl rfl ?_
  refine m_callV (i := 5) (pc' := 14) (av := [_]) (rest := []) rfl rfl (by decide) lX11_298 (sh64 G) rfl rfl rfl rfl rfl (Nat.le_of_ble_eq_true rfl) (Nat.le_refl _) (Nat.le_refl _) (s_X6_follow hM hs ?_)
  dsimp only [psh]
  refine x_aload_n (i := 6) (pc' := 15) rfl rfl rfl rfl ?_
  refine m_getf (i := 7) (pc' := 18) rfl rfl flX11_54 (sh0 G) rfl rfl ?_
  refine x_aload_n (i := 8) (pc' := 19) rfl rfl rfl rfl ?_
  refine m_getf (i := 9) (pc' := 22) rfl rfl flX11_47 (sh0 G) rfl rfl ?_
  refine m_callV (i := 10) (pc' := 25) (av := [_]) (rest := []) rfl rfl (by decide) lX11_302 (sh66 G) rfl rfl rfl rfl rfl (Nat.le_of_ble_eq_true rfl) (Nat.le_refl _) (Nat.le_refl _) (s_X0_arrange a2 (by omega) a4 ht2 ?_)
  dsimp only [psh]
  exact m_return (i := 11) rfl rfl (hQ)
def wpr (x : Mem) (i w : Int) : Int := if w = 0 then x 6 (i * 3 + 0) else if w = 1 then x 6 (i * 3 + 1) else if w = 2 then x 6 (i * 3 + 2) else if w = 3 then x 59 i else if w = 4 then (if x 60 i = 0 then 0 else 1) else if w = 5 then x 61 i else x 62 i
def spr (x : Mem) (w : Int) : Int := if w = 0 then x 5 1 else if w = 1 then x 57 5 else if w = 2 then x 57 6 else if w = 3 then x 63 0 else if w = 4 then x 63 1 else if w = 5 then ple x else pss x
def fgr (x : Mem) (w : Int) : Int := if 0 ≤ w ∧ w ≤ 2 then x 75 w else if w = 3 then x 52 1 else if w = 4 then x 2 2 else if w = 5 then x 5 1 else if w = 6 then x 8 2 else x 4 (w - 7)
theorem s_X11_wordProperty {G : GG} {m : Mem} {Q : Option Value → Mem → Prop} {a b : Int} (hM : MR m) (hs : SN m) (ha : 0 ≤ a ∧ a < m 5 1) (hb : 0 ≤ b ∧ b ≤ 6) (hQ : Q (some (.int (J (wpr m a b)))) m) : CM G 2 mX11_wordProperty [.ref (G.2.2.2 0), .int (J (a)), .int (J (b))] m Q := by
  refine CM.of dkX11_wordProperty (Or.inl rfl) [some _, some _, some _] rfl (Nat.le_of_ble_eq_true rfl) ?_
  have hs1 := hs.2
  refine x_iload_n (i := 0) (pc' := 1) rfl rfl rfl rfl ?_
  rcases (by omega : b = 0 ∨ b = 1 ∨ b = 2 ∨ b = 3 ∨ b = 4 ∨ b = 5 ∨ (b < 0 ∨ 5 < b)) with c1 | c1 | c1 | c1 | c1 | c1 | c1
  · first | (exfalso; omega; done) | skip
    all_goals (
      refine x_tableIn (i := 1) (v := 0) (off := 39) (tgt := 40) rfl c1 ⟨by decide, by decide⟩ (by decide) (by decide) rfl (by decide) ?_
      refine x_aload_n (i := 2) (pc' := 41) rfl rfl rfl rfl ?_
      refine m_getf (i := 3) (pc' := 44) rfl rfl flX11_10 (sh0 G) rfl rfl ?_
      refine m_getf (i := 4) (pc' := 47) rfl rfl flX11_179 (sh1 G) rfl rfl ?_
      refine x_iload_n (i := 5) (pc' := 48) rfl rfl rfl rfl ?_
      refine m_callV (i := 6) (pc' := 51) (av := [_]) (rest := []) rfl rfl (by decide) lX11_306 (sh5 G) rfl rfl rfl rfl rfl (Nat.le_of_ble_eq_true rfl) (Nat.le_refl _) (Nat.le_refl _) (s_X8_signIn hs (by omega) ?_)
      dsimp only [psh]
      exact m_ireturn (i := 7) rfl rfl (by unfold wpr at hQ; (repeat' split at hQ) <;> first | exact hQ | (exfalso; omega))
      skip)
  · first | (exfalso; omega; done) | skip
    all_goals (
      refine x_tableIn (i := 1) (v := 1) (off := 51) (tgt := 52) rfl c1 ⟨by decide, by decide⟩ (by decide) (by decide) rfl (by decide) ?_
      refine x_aload_n (i := 8) (pc' := 53) rfl rfl rfl rfl ?_
      refine m_getf (i := 9) (pc' := 56) rfl rfl flX11_10 (sh0 G) rfl rfl ?_
      refine m_getf (i := 10) (pc' := 59) rfl rfl flX11_179 (sh1 G) rfl rfl ?_
      refine x_iload_n (i := 11) (pc' := 60) rfl rfl rfl rfl ?_
      refine m_callV (i := 12) (pc' := 63) (av := [_]) (rest := []) rfl rfl (by decide) lX11_309 (sh5 G) rfl rfl rfl rfl rfl (Nat.le_of_ble_eq_true rfl) (Nat.le_refl _) (Nat.le_refl _) (s_X8_from hs (by omega) ?_)
      dsimp only [psh]
      exact m_ireturn (i := 13) rfl rfl (by unfold wpr at hQ; (repeat' split at hQ) <;> first | exact hQ | (exfalso; omega))
      skip)
  · first | (exfalso; omega; done) | skip
    all_goals (
      refine x_tableIn (i := 1) (v := 2) (off := 63) (tgt := 64) rfl c1 ⟨by decide, by decide⟩ (by decide) (by decide) rfl (by decide) ?_
      refine x_aload_n (i := 14) (pc' := 65) rfl rfl rfl rfl ?_
      refine m_getf (i := 15) (pc' := 68) rfl rfl flX11_10 (sh0 G) rfl rfl ?_
      refine m_getf (i := 16) (pc' := 71) rfl rfl flX11_179 (sh1 G) rfl rfl ?_
      refine x_iload_n (i := 17) (pc' := 72) rfl rfl rfl rfl ?_
      refine m_callV (i := 18) (pc' := 75) (av := [_]) (rest := []) rfl rfl (by decide) lX11_312 (sh5 G) rfl rfl rfl rfl rfl (Nat.le_of_ble_eq_true rfl) (Nat.le_refl _) (Nat.le_refl _) (s_X8_to hs (by omega) ?_)
      dsimp only [psh]
      exact m_ireturn (i := 19) rfl rfl (by unfold wpr at hQ; (repeat' split at hQ) <;> first | exact hQ | (exfalso; omega))
      skip)
  · first | (exfalso; omega; done) | skip
    all_goals (
      refine x_tableIn (i := 1) (v := 3) (off := 75) (tgt := 76) rfl c1 ⟨by decide, by decide⟩ (by decide) (by decide) rfl (by decide) ?_
      refine x_aload_n (i := 20) (pc' := 77) rfl rfl rfl rfl ?_
      refine m_getf (i := 21) (pc' := 80) rfl rfl flX11_33 (sh0 G) rfl rfl ?_
      refine m_getf (i := 22) (pc' := 83) rfl rfl flX11_315 (sh57 G) rfl rfl ?_
      refine x_iload_n (i := 23) (pc' := 84) rfl rfl rfl rfl ?_
      refine m_iald (i := 24) (pc' := 85) rfl rfl (sh59 G) (by decide) ⟨by omega, by omega⟩ ?_
      exact m_ireturn (i := 25) rfl rfl (by unfold wpr at hQ; (repeat' split at hQ) <;> first | exact hQ | (exfalso; omega))
      skip)
  · first | (exfalso; omega; done) | skip
    all_goals (
      refine x_tableIn (i := 1) (v := 4) (off := 85) (tgt := 86) rfl c1 ⟨by decide, by decide⟩ (by decide) (by decide) rfl (by decide) ?_
      refine x_aload_n (i := 26) (pc' := 87) rfl rfl rfl rfl ?_
      refine m_getf (i := 27) (pc' := 90) rfl rfl flX11_33 (sh0 G) rfl rfl ?_
      refine m_getf (i := 28) (pc' := 93) rfl rfl flX11_318 (sh57 G) rfl rfl ?_
      refine x_iload_n (i := 29) (pc' := 94) rfl rfl rfl rfl ?_
      refine m_zald (i := 30) (pc' := 95) rfl rfl (sh60 G) (by decide) ⟨by omega, by omega⟩ ?_
      refine x_ifeq (i := 31) (pc' := 98) (tgt := 102) rfl rfl (by decide) (by first | omega | exact hM _ _) (fun c2 => ?_) (fun c2 => ?_)
      · first | (exfalso; omega; done) | skip
        all_goals (
          refine x_iconst (i := 34) (pc' := 103) rfl rfl ?_
          exact m_ireturn (i := 35) rfl rfl (by unfold wpr at hQ; (repeat' split at hQ) <;> first | exact hQ | (exfalso; omega))
          skip)
      · first | (exfalso; omega; done) | skip
        all_goals (
          refine x_iconst (i := 32) (pc' := 99) rfl rfl ?_
          refine x_goto (i := 33) (pc' := 103) rfl (by decide) ?_
          exact m_ireturn (i := 35) rfl rfl (by unfold wpr at hQ; (repeat' split at hQ) <;> first | exact hQ | (exfalso; omega))
          skip)
      skip)
  · first | (exfalso; omega; done) | skip
    all_goals (
      refine x_tableIn (i := 1) (v := 5) (off := 103) (tgt := 104) rfl c1 ⟨by decide, by decide⟩ (by decide) (by decide) rfl (by decide) ?_
      refine x_aload_n (i := 36) (pc' := 105) rfl rfl rfl rfl ?_
      refine m_getf (i := 37) (pc' := 108) rfl rfl flX11_33 (sh0 G) rfl rfl ?_
      refine m_getf (i := 38) (pc' := 111) rfl rfl flX11_322 (sh57 G) rfl rfl ?_
      refine x_iload_n (i := 39) (pc' := 112) rfl rfl rfl rfl ?_
      refine m_iald (i := 40) (pc' := 113) rfl rfl (sh61 G) (by decide) ⟨by omega, by omega⟩ ?_
      exact m_ireturn (i := 41) rfl rfl (by unfold wpr at hQ; (repeat' split at hQ) <;> first | exact hQ | (exfalso; omega))
      skip)
  · first | (exfalso; omega; done) | skip
    all_goals (
      refine x_tableOut (i := 1) (tgt := 114) rfl (by first | omega | exact hM _ _) c1 (by decide) ?_
      refine x_aload_n (i := 42) (pc' := 115) rfl rfl rfl rfl ?_
      refine m_getf (i := 43) (pc' := 118) rfl rfl flX11_33 (sh0 G) rfl rfl ?_
      refine m_getf (i := 44) (pc' := 121) rfl rfl flX11_325 (sh57 G) rfl rfl ?_
      refine x_iload_n (i := 45) (pc' := 122) rfl rfl rfl rfl ?_
      refine m_iald (i := 46) (pc' := 123) rfl rfl (sh62 G) (by decide) ⟨by omega, by omega⟩ ?_
      exact m_ireturn (i := 47) rfl rfl (by unfold wpr at hQ; (repeat' split at hQ) <;> first | exact hQ | (exfalso; omega))
      skip)
theorem s_X11_sentenceProperty {G : GG} {m : Mem} {Q : Option Value → Mem → Prop} {b : Int} (hc : 0 ≤ m 64 1 ∧ m 64 1 ≤ 32) (hp : ∀ n, 0 ≤ n → n < m 64 1 → 0 ≤ m 65 n ∧ m 65 n ≤ 5) (hpo : POS m) (hb : 0 ≤ b ∧ b ≤ 6) (hQ : Q (some (.int (J (spr m b)))) m) : CM G 4 mX11_sentenceProperty [.ref (G.2.2.2 0), .int (J (b))] m Q := by
  refine CM.of dkX11_sentenceProperty (Or.inl rfl) [some _, some _] rfl (Nat.le_of_ble_eq_true rfl) ?_
  refine x_iload_n (i := 0) (pc' := 1) rfl rfl rfl rfl ?_
  rcases (by omega : b = 0 ∨ b = 1 ∨ b = 2 ∨ b = 3 ∨ b = 4 ∨ b = 5 ∨ (b < 0 ∨ 5 < b)) with c1 | c1 | c1 | c1 | c1 | c1 | c1
  · first | (exfalso; omega; done) | skip
    all_goals (
      refine x_tableIn (i := 1) (v := 0) (off := 39) (tgt := 40) rfl c1 ⟨by decide, by decide⟩ (by decide) (by decide) rfl (by decide) ?_
      refine x_aload_n (i := 2) (pc' := 41) rfl rfl rfl rfl ?_
      refine m_getf (i := 3) (pc' := 44) rfl rfl flX11_10 (sh0 G) rfl rfl ?_
      refine m_getf (i := 4) (pc' := 47) rfl rfl flX11_179 (sh1 G) rfl rfl ?_
      refine m_getf (i := 5) (pc' := 50) rfl rfl flX11_328 (sh5 G) rfl rfl ?_
      exact m_ireturn (i := 6) rfl rfl (by unfold spr at hQ; (repeat' split at hQ) <;> first | exact hQ | (exfalso; omega))
      skip)
  · first | (exfalso; omega; done) | skip
    all_goals (
      refine x_tableIn (i := 1) (v := 1) (off := 50) (tgt := 51) rfl c1 ⟨by decide, by decide⟩ (by decide) (by decide) rfl (by decide) ?_
      refine x_aload_n (i := 7) (pc' := 52) rfl rfl rfl rfl ?_
      refine m_getf (i := 8) (pc' := 55) rfl rfl flX11_33 (sh0 G) rfl rfl ?_
      refine m_getf (i := 9) (pc' := 58) rfl rfl flX11_331 (sh57 G) rfl rfl ?_
      exact m_ireturn (i := 10) rfl rfl (by unfold spr at hQ; (repeat' split at hQ) <;> first | exact hQ | (exfalso; omega))
      skip)
  · first | (exfalso; omega; done) | skip
    all_goals (
      refine x_tableIn (i := 1) (v := 2) (off := 58) (tgt := 59) rfl c1 ⟨by decide, by decide⟩ (by decide) (by decide) rfl (by decide) ?_
      refine x_aload_n (i := 11) (pc' := 60) rfl rfl rfl rfl ?_
      refine m_getf (i := 12) (pc' := 63) rfl rfl flX11_33 (sh0 G) rfl rfl ?_
      refine m_getf (i := 13) (pc' := 66) rfl rfl flX11_334 (sh57 G) rfl rfl ?_
      exact m_ireturn (i := 14) rfl rfl (by unfold spr at hQ; (repeat' split at hQ) <;> first | exact hQ | (exfalso; omega))
      skip)
  · first | (exfalso; omega; done) | skip
    all_goals (
      refine x_tableIn (i := 1) (v := 3) (off := 66) (tgt := 67) rfl c1 ⟨by decide, by decide⟩ (by decide) (by decide) rfl (by decide) ?_
      refine x_aload_n (i := 15) (pc' := 68) rfl rfl rfl rfl ?_
      refine m_getf (i := 16) (pc' := 71) rfl rfl flX11_40 (sh0 G) rfl rfl ?_
      refine m_getf (i := 17) (pc' := 74) rfl rfl flX11_337 (sh63 G) rfl rfl ?_
      exact m_ireturn (i := 18) rfl rfl (by unfold spr at hQ; (repeat' split at hQ) <;> first | exact hQ | (exfalso; omega))
      skip)
  · first | (exfalso; omega; done) | skip
    all_goals (
      refine x_tableIn (i := 1) (v := 4) (off := 74) (tgt := 75) rfl c1 ⟨by decide, by decide⟩ (by decide) (by decide) rfl (by decide) ?_
      refine x_aload_n (i := 19) (pc' := 76) rfl rfl rfl rfl ?_
      refine m_getf (i := 20) (pc' := 79) rfl rfl flX11_40 (sh0 G) rfl rfl ?_
      refine m_getf (i := 21) (pc' := 82) rfl rfl flX11_340 (sh63 G) rfl rfl ?_
      exact m_ireturn (i := 22) rfl rfl (by unfold spr at hQ; (repeat' split at hQ) <;> first | exact hQ | (exfalso; omega))
      skip)
  · first | (exfalso; omega; done) | skip
    all_goals (
      refine x_tableIn (i := 1) (v := 5) (off := 82) (tgt := 83) rfl c1 ⟨by decide, by decide⟩ (by decide) (by decide) rfl (by decide) ?_
      refine x_aload_n (i := 23) (pc' := 84) rfl rfl rfl rfl ?_
      refine m_getf (i := 24) (pc' := 87) rfl rfl flX11_47 (sh0 G) rfl rfl ?_
      refine x_aload_n (i := 25) (pc' := 88) rfl rfl rfl rfl ?_
      refine m_getf (i := 26) (pc' := 91) rfl rfl flX11_10 (sh0 G) rfl rfl ?_
      refine m_callV (i := 27) (pc' := 94) (av := [_]) (rest := []) rfl rfl (by decide) lX11_230 (sh64 G) rfl rfl rfl rfl rfl (Nat.le_of_ble_eq_true rfl) (Nat.le_refl _) (Nat.le_refl _) (s_X6_lengthIn (by omega) hp hpo ?_)
      dsimp only [psh]
      exact m_ireturn (i := 28) rfl rfl (by unfold spr at hQ; (repeat' split at hQ) <;> first | exact hQ | (exfalso; omega))
      skip)
  · first | (exfalso; omega; done) | skip
    all_goals (
      refine x_tableOut (i := 1) (tgt := 95) rfl ⟨by omega, by omega⟩ c1 (by decide) ?_
      refine x_aload_n (i := 29) (pc' := 96) rfl rfl rfl rfl ?_
      refine m_getf (i := 30) (pc' := 99) rfl rfl flX11_47 (sh0 G) rfl rfl ?_
      refine m_callV (i := 31) (pc' := 102) (av := []) (rest := []) rfl rfl (by decide) lX11_343 (sh64 G) rfl rfl rfl rfl rfl (Nat.le_of_ble_eq_true rfl) (Nat.le_refl _) (Nat.le_refl _) (s_X6_setOfSpots (by omega) hp ?_)
      dsimp only [psh]
      exact m_ireturn (i := 32) rfl rfl (by unfold spr at hQ; (repeat' split at hQ) <;> first | exact hQ | (exfalso; omega))
      skip)
theorem s_X11_figure {G : GG} {m : Mem} {Q : Option Value → Mem → Prop} {b : Int} (hb : 0 ≤ b ∧ b ≤ 10) (hQ : Q (some (.int (J (fgr m b)))) m) : CM G 2 mX11_figure [.ref (G.2.2.2 0), .int (J (b))] m Q := by
  refine CM.of dkX11_figure (Or.inl rfl) [some _, some _] rfl (Nat.le_of_ble_eq_true rfl) ?_
  refine x_iload_n (i := 0) (pc' := 1) rfl rfl rfl rfl ?_
  refine x_iconst (i := 1) (pc' := 2) rfl rfl ?_
  refine x_iconst (i := 2) (pc' := 3) rfl rfl ?_
  refine m_callS (i := 3) (pc' := 6) (av := [_, _, _]) (rest := []) rfl rfl (by decide) lX11_112 rfl rfl (Nat.le_of_ble_eq_true rfl) (Nat.le_refl _) (Nat.le_refl _) (s_X11_isWithin (by omega) (by omega) (by omega) ?_)
  dsimp only [psh]
  refine x_ifeq (i := 4) (pc' := 9) (tgt := 16) rfl rfl (by decide) (by (repeat' split at *) <;> omega) (fun c1 => ?_) (fun c1 => ?_)
  · first | (exfalso; (repeat' split at *) <;> omega; done) | skip
    all_goals (
      refine x_iload_n (i := 10) (pc' := 17) rfl rfl rfl rfl ?_
      rcases (by omega : b = 3 ∨ b = 4 ∨ b = 5 ∨ b = 6 ∨ (b < 3 ∨ 6 < b)) with c2 | c2 | c2 | c2 | c2
      · first | (exfalso; (repeat' split at *) <;> omega; done) | skip
        all_goals (
          refine x_tableIn (i := 11) (v := 3) (off := 31) (tgt := 48) rfl c2 ⟨by decide, by decide⟩ (by decide) (by decide) rfl (by decide) ?_
          refine x_aload_n (i := 12) (pc' := 49) rfl rfl rfl rfl ?_
          refine m_getf (i := 13) (pc' := 52) rfl rfl flX11_26 (sh0 G) rfl rfl ?_
          refine m_getf (i := 14) (pc' := 55) rfl rfl flX11_346 (sh52 G) rfl rfl ?_
          exact m_ireturn (i := 15) rfl rfl (by unfold fgr at hQ; (repeat' split at hQ) <;> first | exact hQ | (exfalso; omega))
          skip)
      · first | (exfalso; (repeat' split at *) <;> omega; done) | skip
        all_goals (
          refine x_tableIn (i := 11) (v := 4) (off := 39) (tgt := 56) rfl c2 ⟨by decide, by decide⟩ (by decide) (by decide) rfl (by decide) ?_
          refine x_aload_n (i := 16) (pc' := 57) rfl rfl rfl rfl ?_
          refine m_getf (i := 17) (pc' := 60) rfl rfl flX11_10 (sh0 G) rfl rfl ?_
          refine m_getf (i := 18) (pc' := 63) rfl rfl flX11_80 (sh1 G) rfl rfl ?_
          refine m_getf (i := 19) (pc' := 66) rfl rfl flX11_349 (sh2 G) rfl rfl ?_
          exact m_ireturn (i := 20) rfl rfl (by unfold fgr at hQ; (repeat' split at hQ) <;> first | exact hQ | (exfalso; omega))
          skip)
      · first | (exfalso; (repeat' split at *) <;> omega; done) | skip
        all_goals (
          refine x_tableIn (i := 11) (v := 5) (off := 50) (tgt := 67) rfl c2 ⟨by decide, by decide⟩ (by decide) (by decide) rfl (by decide) ?_
          refine x_aload_n (i := 21) (pc' := 68) rfl rfl rfl rfl ?_
          refine m_getf (i := 22) (pc' := 71) rfl rfl flX11_10 (sh0 G) rfl rfl ?_
          refine m_getf (i := 23) (pc' := 74) rfl rfl flX11_179 (sh1 G) rfl rfl ?_
          refine m_getf (i := 24) (pc' := 77) rfl rfl flX11_328 (sh5 G) rfl rfl ?_
          exact m_ireturn (i := 25) rfl rfl (by unfold fgr at hQ; (repeat' split at hQ) <;> first | exact hQ | (exfalso; omega))
          skip)
      · first | (exfalso; (repeat' split at *) <;> omega; done) | skip
        all_goals (
          refine x_tableIn (i := 11) (v := 6) (off := 61) (tgt := 78) rfl c2 ⟨by decide, by decide⟩ (by decide) (by decide) rfl (by decide) ?_
          refine x_aload_n (i := 26) (pc' := 79) rfl rfl rfl rfl ?_
          refine m_getf (i := 27) (pc' := 82) rfl rfl flX11_19 (sh0 G) rfl rfl ?_
          refine m_getf (i := 28) (pc' := 85) rfl rfl flX11_350 (sh8 G) rfl rfl ?_
          exact m_ireturn (i := 29) rfl rfl (by unfold fgr at hQ; (repeat' split at hQ) <;> first | exact hQ | (exfalso; omega))
          skip)
      · first | (exfalso; (repeat' split at *) <;> omega; done) | skip
        all_goals (
          refine x_tableOut (i := 11) (tgt := 86) rfl (by (repeat' split at *) <;> omega) c2 (by decide) ?_
          refine x_aload_n (i := 30) (pc' := 87) rfl rfl rfl rfl ?_
          refine m_getf (i := 31) (pc' := 90) rfl rfl flX11_10 (sh0 G) rfl rfl ?_
          refine m_getf (i := 32) (pc' := 93) rfl rfl flX11_80 (sh1 G) rfl rfl ?_
          refine x_iload_n (i := 33) (pc' := 94) rfl rfl rfl rfl ?_
          refine x_bipush (i := 34) (pc' := 96) rfl rfl (by decide) ?_
          refine x_isub (i := 35) (pc' := 97) rfl rfl ?_
          refine m_callV (i := 36) (pc' := 100) (av := [_]) (rest := []) rfl rfl (by decide) lX11_351 (sh2 G) rfl rfl rfl rfl rfl (Nat.le_of_ble_eq_true rfl) (Nat.le_refl _) (Nat.le_refl _) (s_X3_weightOf (by omega) ?_)
          dsimp only [psh]
          exact m_ireturn (i := 37) rfl rfl (by unfold fgr at hQ; (repeat' split at hQ) <;> first | exact hQ | (exfalso; omega))
          skip)
      skip)
  · first | (exfalso; (repeat' split at *) <;> omega; done) | skip
    all_goals (
      refine x_aload_n (i := 5) (pc' := 10) rfl rfl rfl rfl ?_
      refine m_getf (i := 6) (pc' := 13) rfl rfl flX11_72 (sh0 G) rfl rfl ?_
      refine x_iload_n (i := 7) (pc' := 14) rfl rfl rfl rfl ?_
      refine m_iald (i := 8) (pc' := 15) rfl rfl (sh75 G) (by decide) ⟨by (repeat' split at *) <;> omega, by (repeat' split at *) <;> omega⟩ ?_
      exact m_ireturn (i := 9) rfl rfl (by unfold fgr at hQ; (repeat' split at hQ) <;> first | exact hQ | (exfalso; omega))
      skip)
