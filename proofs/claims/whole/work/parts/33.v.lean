theorem pss_le {m : Mem} (hp : ∀ n, 0 ≤ n → n < m 64 1 → 0 ≤ m 65 n ∧ m 65 n ≤ 5) : 0 ≤ pss m ∧ pss m < 64 := by
  refine it_I (I := fun x : Int => 0 ≤ x ∧ x < 64) _ _ _ (fun i y h1 h2 hy => ?_) (by decide)
  have a1 := hp i (by omega) (by omega)
  have hpw := pw5 (j := m 65 i) (by omega)
  exact ⟨io_nn _ _, io_lt 6 hy (by omega)⟩
theorem lsf_le (m : Mem) : 0 ≤ lsf m ∧ lsf m ≤ 15 := by
  refine it_I (I := fun x : Int => 0 ≤ x ∧ x ≤ 15) _ _ _ (fun i y h1 h2 hy => ?_) (by decide)
  split <;> omega
theorem mpr_le {m : Mem} (h : ∀ i, 0 ≤ i → i < 16 → 0 ≤ m 74 i ∧ m 74 i ≤ 256) (a : Int) : 0 ≤ mpr m a ∧ mpr m a ≤ 1024 := by
  have := it_Ij (f := fun p x => if a = -1 ∨ a = p then x + m 74 (1 * 2 ^ p.toNat) else x) (fun j x => 0 ≤ x ∧ x ≤ 256 * j) 4 0 0 (fun i y h1 h2 h3 => by
    have hpw := pw3 (j := i) (by omega)
    have a1 := h (1 * 2 ^ i.toNat) (by omega) (by omega)
    split <;> omega) (by decide)
  exact this
def dg1 (x : Mem) : Int := it (fun w h => mxd h (fgr x w)) 0 11 2287
def dg4 (x : Mem) (h0 : Int) : Int := it (fun w h => mxd h (spr x w)) 0 7 h0
def dg5 (x : Mem) (h0 : Int) : Int := it (fun s h => mxd h (x 7 s)) 0 6 h0
noncomputable def dgs (x : Mem) : Int := mxd (mxd (mxd (dg5 x (dg4 x (wwgs x (wsgs x (dg1 x))))) (x 66 3)) (mpr x (-1))) (lsf x)
theorem fgr_rg {m : Mem} (hM : MR m) (w : Int) : rg (fgr m w) := by
  unfold fgr
  (repeat' split) <;> exact hM _ _
theorem spr_rg {m : Mem} (hM : MR m) (hc : 0 ≤ m 64 1 ∧ m 64 1 ≤ 32) (hp : ∀ n, 0 ≤ n → n < m 64 1 → 0 ≤ m 65 n ∧ m 65 n ≤ 5) (hpo : POS m) (w : Int) : rg (spr m w) := by
  have h1 := ple_le hc hp hpo; have h2 := pss_le hp
  unfold spr
  (repeat' split) <;> first | exact hM _ _ | omega
def dgm (m : Mem) : Mem := cmm (fbm (exm m))
theorem dg_tail {G : GG} {m : Mem} {Q : Option Value → Mem → Prop} (hM : MR m) (hn : CN m) (hs : SN m) (hc : 0 ≤ m 64 1 ∧ m 64 1 ≤ 32) (hp : ∀ n, 0 ≤ n → n < m 64 1 → 0 ≤ m 65 n ∧ m 65 n ≤ 5) (hpo : POS m) (h74 : ∀ i, 0 ≤ i → i < 16 → 0 ≤ m 74 i ∧ m 74 i ≤ 256) (hQ : Q (some (.long (JL (dgs m)))) m) : BW G 12 mX11_digest Q 28 [some (.ref (G.2.2.2 0)), some (.long (JL (2287))), none, some (.int (J (0)))] [] m := by
  have q1 := mpr_le h74 (-1); have q2 := lsf_le m
  refine up_ind0 (P := fun (j : Int) (x : Int) => BW G 12 mX11_digest Q 28 [some (.ref (G.2.2.2 0)), some (.long (JL (x))), none, some (.int (J (j)))] [] m) (fun (j : Int) (x : Int) => mxd x (fgr m j)) (11) (0) (2287) (by omega) (fun j x hj0 hj hk => ?_) ?_
  · skip
    refine x_iload_n (i := 14) (pc' := 29) rfl rfl rfl rfl ?_
    refine x_bipush (i := 15) (pc' := 31) rfl rfl (by decide) ?_
    refine x_icmpgt (i := 16) (pc' := 34) (tgt := 50) rfl rfl (by decide) ⟨by omega, by omega⟩ ⟨by omega, by omega⟩ (fun c11 => by exfalso; omega) (fun c11 => ?_)
    refine x_lload_n (i := 17) (pc' := 35) rfl rfl rfl rfl ?_
    refine x_aload_n (i := 18) (pc' := 36) rfl rfl rfl rfl ?_
    refine x_iload_n (i := 19) (pc' := 37) rfl rfl rfl rfl ?_
    refine m_callV (i := 20) (pc' := 40) (av := [_]) (rest := [_]) rfl rfl (by decide) lX11_264 (sh0 G) rfl rfl rfl rfl rfl (Nat.le_of_ble_eq_true rfl) (Nat.le_refl _) (Nat.le_refl _) (s_X11_figure (by omega) ?_)
    dsimp only [psh]
    refine m_callS (i := 21) (pc' := 43) (av := [_, _]) (rest := []) rfl rfl (by decide) lX11_269 rfl rfl (Nat.le_of_ble_eq_true rfl) (Nat.le_refl _) (Nat.le_refl _) (s_X11_mixed (fgr_rg hM j) ?_)
    dsimp only [psh]
    refine x_lstore_n (L' := [some _, some _, none, some _]) (i := 22) (pc' := 44) rfl rfl rfl rfl (by decide) rfl ?_
    refine x_iinc (L' := [some _, some _, none, some _]) (i := 23) (pc' := 47) rfl rfl rfl rfl (by decide) rfl ?_
    refine x_goto (i := 24) (pc' := 28) rfl (by decide) ?_
    (first | exact hk | (refine AW.le ?_ hk; simp [lvle]; done) | ((repeat' split at hk) <;> first | exact hk | (refine AW.le ?_ hk; simp [lvle]; done) | (exfalso; omega)))
  · skip
    refine x_iload_n (i := 14) (pc' := 29) rfl rfl rfl rfl ?_
    refine x_bipush (i := 15) (pc' := 31) rfl rfl (by decide) ?_
    refine x_icmpgt (i := 16) (pc' := 34) (tgt := 50) rfl rfl (by decide) ⟨by omega, by omega⟩ ⟨by omega, by omega⟩ (fun d11 => ?_) (fun d11 => by exfalso; omega)
    refine x_aload_n (i := 25) (pc' := 51) rfl rfl rfl rfl ?_
    refine x_lload_n (i := 26) (pc' := 52) rfl rfl rfl rfl ?_
    refine m_callV (i := 27) (pc' := 55) (av := [_]) (rest := []) rfl rfl (by decide) lX11_273 (sh0 G) rfl rfl rfl rfl rfl (Nat.le_of_ble_eq_true rfl) (Nat.le_refl _) (Nat.le_refl _) (s_X11_withSigns hM hn hs ?_)
    dsimp only [psh]
    refine x_lstore_n (L' := [some _, some _, none, some _]) (i := 28) (pc' := 56) rfl rfl rfl rfl (by decide) rfl ?_
    refine x_aload_n (i := 29) (pc' := 57) rfl rfl rfl rfl ?_
    refine x_lload_n (i := 30) (pc' := 58) rfl rfl rfl rfl ?_
    refine m_callV (i := 31) (pc' := 61) (av := [_]) (rest := []) rfl rfl (by decide) lX11_277 (sh0 G) rfl rfl rfl rfl rfl (Nat.le_of_ble_eq_true rfl) (Nat.le_refl _) (Nat.le_refl _) (s_X11_withWords hM hs ?_)
    dsimp only [psh]
    refine x_lstore_n (L' := [some _, some _, none, some _]) (i := 32) (pc' := 62) rfl rfl rfl rfl (by decide) rfl ?_
    refine x_iconst (i := 33) (pc' := 63) rfl rfl ?_
    refine x_istore_n (L' := [some _, some _, none, some _]) (i := 34) (pc' := 64) rfl rfl rfl rfl (by decide) rfl ?_
    refine up_ind0 (P := fun (j : Int) (x : Int) => BW G 12 mX11_digest Q 64 [some (.ref (G.2.2.2 0)), some (.long (JL (x))), none, some (.int (J (j)))] [] m) (fun (j : Int) (x : Int) => mxd x (spr m j)) (7) (0) (wwgs m (wsgs m (dg1 m))) (by omega) (fun j x hj0 hj hk => ?_) ?_
    · skip
      refine x_iload_n (i := 35) (pc' := 65) rfl rfl rfl rfl ?_
      refine x_bipush (i := 36) (pc' := 67) rfl rfl (by decide) ?_
      refine x_icmpgt (i := 37) (pc' := 70) (tgt := 86) rfl rfl (by decide) ⟨by omega, by omega⟩ ⟨by omega, by omega⟩ (fun c41 => by exfalso; omega) (fun c41 => ?_)
      refine x_lload_n (i := 38) (pc' := 71) rfl rfl rfl rfl ?_
      refine x_aload_n (i := 39) (pc' := 72) rfl rfl rfl rfl ?_
      refine x_iload_n (i := 40) (pc' := 73) rfl rfl rfl rfl ?_
      refine m_callV (i := 41) (pc' := 76) (av := [_]) (rest := [_]) rfl rfl (by decide) lX11_211 (sh0 G) rfl rfl rfl rfl rfl (Nat.le_of_ble_eq_true rfl) (Nat.le_refl _) (Nat.le_refl _) (s_X11_sentenceProperty hc hp hpo (by omega) ?_)
      dsimp only [psh]
      refine m_callS (i := 42) (pc' := 79) (av := [_, _]) (rest := []) rfl rfl (by decide) lX11_269 rfl rfl (Nat.le_of_ble_eq_true rfl) (Nat.le_refl _) (Nat.le_refl _) (s_X11_mixed (spr_rg hM hc hp hpo j) ?_)
      dsimp only [psh]
      refine x_lstore_n (L' := [some _, some _, none, some _]) (i := 43) (pc' := 80) rfl rfl rfl rfl (by decide) rfl ?_
      refine x_iinc (L' := [some _, some _, none, some _]) (i := 44) (pc' := 83) rfl rfl rfl rfl (by decide) rfl ?_
      refine x_goto (i := 45) (pc' := 64) rfl (by decide) ?_
      (first | exact hk | (refine AW.le ?_ hk; simp [lvle]; done) | ((repeat' split at hk) <;> first | exact hk | (refine AW.le ?_ hk; simp [lvle]; done) | (exfalso; omega)))
    · skip
      refine x_iload_n (i := 35) (pc' := 65) rfl rfl rfl rfl ?_
      refine x_bipush (i := 36) (pc' := 67) rfl rfl (by decide) ?_
      refine x_icmpgt (i := 37) (pc' := 70) (tgt := 86) rfl rfl (by decide) ⟨by omega, by omega⟩ ⟨by omega, by omega⟩ (fun d41 => ?_) (fun d41 => by exfalso; omega)
      refine x_iconst (i := 46) (pc' := 87) rfl rfl ?_
      refine x_istore_n (L' := [some _, some _, none, some _]) (i := 47) (pc' := 88) rfl rfl rfl rfl (by decide) rfl ?_
      refine up_ind0 (P := fun (j : Int) (x : Int) => BW G 12 mX11_digest Q 88 [some (.ref (G.2.2.2 0)), some (.long (JL (x))), none, some (.int (J (j)))] [] m) (fun (j : Int) (x : Int) => mxd x (m 7 j)) (6) (0) (dg4 m (wwgs m (wsgs m (dg1 m)))) (by omega) (fun j x hj0 hj hk => ?_) ?_
      · skip
        refine x_iload_n (i := 48) (pc' := 89) rfl rfl rfl rfl ?_
        refine x_bipush (i := 49) (pc' := 91) rfl rfl (by decide) ?_
        refine x_icmpge (i := 50) (pc' := 94) (tgt := 113) rfl rfl (by decide) ⟨by omega, by omega⟩ ⟨by omega, by omega⟩ (fun c51 => by exfalso; omega) (fun c51 => ?_)
        refine x_lload_n (i := 51) (pc' := 95) rfl rfl rfl rfl ?_
        refine x_aload_n (i := 52) (pc' := 96) rfl rfl rfl rfl ?_
        refine m_getf (i := 53) (pc' := 99) rfl rfl flX11_10 (sh0 G) rfl rfl ?_
        refine x_iload_n (i := 54) (pc' := 100) rfl rfl rfl rfl ?_
        refine m_callV (i := 55) (pc' := 103) (av := [_]) (rest := [_]) rfl rfl (by decide) lX11_217 (sh1 G) rfl rfl rfl rfl rfl (Nat.le_of_ble_eq_true rfl) (Nat.le_refl _) (Nat.le_refl _) (s_X9_position (by omega) ?_)
        dsimp only [psh]
        refine m_callS (i := 56) (pc' := 106) (av := [_, _]) (rest := []) rfl rfl (by decide) lX11_269 rfl rfl (Nat.le_of_ble_eq_true rfl) (Nat.le_refl _) (Nat.le_refl _) (s_X11_mixed (hM _ _) ?_)
        dsimp only [psh]
        refine x_lstore_n (L' := [some _, some _, none, some _]) (i := 57) (pc' := 107) rfl rfl rfl rfl (by decide) rfl ?_
        refine x_iinc (L' := [some _, some _, none, some _]) (i := 58) (pc' := 110) rfl rfl rfl rfl (by decide) rfl ?_
        refine x_goto (i := 59) (pc' := 88) rfl (by decide) ?_
        (first | exact hk | (refine AW.le ?_ hk; simp [lvle]; done) | ((repeat' split at hk) <;> first | exact hk | (refine AW.le ?_ hk; simp [lvle]; done) | (exfalso; omega)))
      · skip
        refine x_iload_n (i := 48) (pc' := 89) rfl rfl rfl rfl ?_
        refine x_bipush (i := 49) (pc' := 91) rfl rfl (by decide) ?_
        refine x_icmpge (i := 50) (pc' := 94) (tgt := 113) rfl rfl (by decide) ⟨by omega, by omega⟩ ⟨by omega, by omega⟩ (fun d51 => ?_) (fun d51 => by exfalso; omega)
        refine x_lload_n (i := 60) (pc' := 114) rfl rfl rfl rfl ?_
        refine x_aload_n (i := 61) (pc' := 115) rfl rfl rfl rfl ?_
        refine m_getf (i := 62) (pc' := 118) rfl rfl flX11_54 (sh0 G) rfl rfl ?_
        refine m_getf (i := 63) (pc' := 121) rfl rfl flX11_223 (sh66 G) rfl rfl ?_
        refine m_callS (i := 64) (pc' := 124) (av := [_, _]) (rest := []) rfl rfl (by decide) lX11_269 rfl rfl (Nat.le_of_ble_eq_true rfl) (Nat.le_refl _) (Nat.le_refl _) (s_X11_mixed (hM _ _) ?_)
        dsimp only [psh]
        refine x_lstore_n (L' := [some _, some _, none, some _]) (i := 65) (pc' := 125) rfl rfl rfl rfl (by decide) rfl ?_
        refine x_lload_n (i := 66) (pc' := 126) rfl rfl rfl rfl ?_
        refine x_aload_n (i := 67) (pc' := 127) rfl rfl rfl rfl ?_
        refine m_getf (i := 68) (pc' := 130) rfl rfl flX11_68 (sh0 G) rfl rfl ?_
        refine x_iconst (i := 69) (pc' := 131) rfl rfl ?_
        refine m_callV (i := 70) (pc' := 134) (av := [_]) (rest := [_]) rfl rfl (by decide) lX11_163 (sh73 G) rfl rfl rfl rfl rfl (Nat.le_of_ble_eq_true rfl) (Nat.le_refl _) (Nat.le_refl _) (s_X2_minimalPairs (by omega) ?_)
        dsimp only [psh]
        refine m_callS (i := 71) (pc' := 137) (av := [_, _]) (rest := []) rfl rfl (by decide) lX11_269 rfl rfl (Nat.le_of_ble_eq_true rfl) (Nat.le_refl _) (Nat.le_refl _) (s_X11_mixed (by omega) ?_)
        dsimp only [psh]
        refine x_lstore_n (L' := [some _, some _, none, some _]) (i := 72) (pc' := 138) rfl rfl rfl rfl (by decide) rfl ?_
        refine x_lload_n (i := 73) (pc' := 139) rfl rfl rfl rfl ?_
        refine x_aload_n (i := 74) (pc' := 140) rfl rfl rfl rfl ?_
        refine m_getf (i := 75) (pc' := 143) rfl rfl flX11_68 (sh0 G) rfl rfl ?_
        refine m_callV (i := 76) (pc' := 146) (av := []) (rest := [_]) rfl rfl (by decide) lX11_166 (sh73 G) rfl rfl rfl rfl rfl (Nat.le_of_ble_eq_true rfl) (Nat.le_refl _) (Nat.le_refl _) (s_X2_leastSufficient hM ?_)
        dsimp only [psh]
        refine m_callS (i := 77) (pc' := 149) (av := [_, _]) (rest := []) rfl rfl (by decide) lX11_269 rfl rfl (Nat.le_of_ble_eq_true rfl) (Nat.le_refl _) (Nat.le_refl _) (s_X11_mixed (by omega) ?_)
        dsimp only [psh]
        exact m_lreturn (i := 78) rfl rfl (hQ)
theorem crw_ne (n j : Int) (x : Mem) {q : Nat} (h : q ≠ 74) : crw n j x q = x q := it_8 (fun i y => stm_ne _ _ _ h) _ _ _
theorem cmm_ne (m : Mem) {q : Nat} (h : q ≠ 74) : cmm m q = m q := by
  unfold cmm
  rw [it_8 (q := q) (fun i y => crw_ne _ _ _ h)]
  unfold flm
  exact flm_ne h _ _ _ _
theorem fbm_ne (m : Mem) {q : Nat} (h : q < 64 ∨ 69 < q) : fbm m q = m q := by unfold fbm; rw [arm_ne _ (by omega), fwm_ne _ (by omega) (by omega)]
theorem exm_ne (m : Mem) {q : Nat} (h : q < 57 ∨ 65 < q) : exm m q = m q := by unfold exm; rw [fwm_ne _ (by omega) (by omega), ckm_ne _ (by omega), ipm_ne _ _ (by omega)]
theorem s_X11_digest {G : GG} {m : Mem} {Q : Option Value → Mem → Prop} (h : GI m) (hQ : Q (some (.long (JL (dgs (dgm m))))) (dgm m)) : CM G 12 mX11_digest [.ref (G.2.2.2 0)] m Q := by
  refine CM.of dkX11_digest (Or.inl rfl) [some _, none, none, none] rfl (Nat.le_of_ble_eq_true rfl) ?_
  obtain ⟨hM, ⟨hn, hs, hv, hst, hw, hwd, hpo⟩, hx, htx, htr, her⟩ := h
  have hn0 := hn.1; have hn1 := hn.2; have hs0 := hs.1; have hs1 := hs.2
  obtain ⟨i1, i2⟩ := ipm_I hM hs (w := 16) (by omega)
  obtain ⟨b1, b2⟩ := ckm_I i2 (i1.sn hs)
  have s3 := b1.sn (i1.sn hs)
  obtain ⟨f1, f2, f3, f4⟩ := fwm_I b2 s3
  have e2 : exm m 2 = m 2 := exm_ne m (by decide)
  have e5 : exm m 5 = m 5 := exm_ne m (by decide)
  have e7 : exm m 7 = m 7 := exm_ne m (by decide)
  have e68 : exm m 68 = m 68 := exm_ne m (by decide)
  have M1 : MR (exm m) := f2
  have N1 : SN (exm m) := (by unfold SN; rw [e5]; exact hs)
  have T1 : TRL (exm m) := (by unfold TRL; rw [e68]; exact htr)
  refine x_aload_n (i := 0) (pc' := 1) rfl rfl rfl rfl ?_
  refine m_callV (i := 1) (pc' := 4) (av := []) (rest := []) rfl rfl (by decide) lX11_208 (sh0 G) rfl rfl rfl rfl rfl (Nat.le_of_ble_eq_true rfl) (Nat.le_refl _) (Nat.le_refl _) (s_X11_examineSentence hM hs (hwd.wds hn) ?_)
  dsimp only [psh]
  generalize hy : exm m = y at e2 e5 e7 e68 M1 N1 T1 ⊢
  refine x_aload_n (i := 2) (pc' := 5) rfl rfl rfl rfl ?_
  refine m_callV (i := 3) (pc' := 8) (av := []) (rest := []) rfl rfl (by decide) lX11_220 (sh0 G) rfl rfl rfl rfl rfl (Nat.le_of_ble_eq_true rfl) (Nat.le_refl _) (Nat.le_refl _) (s_X11_findBestArrangement M1 N1 T1 ?_)
  dsimp only [psh]
  obtain ⟨g1, g2, g3, g4⟩ := fwm_I M1 N1
  have c64 : 0 ≤ fwm y 64 1 ∧ fwm y 64 1 ≤ 32 := (by have := N1.2; omega)
  have A1 := arm_I g2 c64 g4 (by unfold TRL; rw [fwm_ne _ (by decide) (by decide)]; exact T1)
  have M2 : MR (fbm y) := A1.1
  have u2 : fbm y 2 = m 2 := (fbm_ne y (by decide)).trans e2
  have u5 : fbm y 5 = m 5 := (fbm_ne y (by decide)).trans e5
  have u7 : fbm y 7 = m 7 := (fbm_ne y (by decide)).trans e7
  have u64 : fbm y 64 = fwm y 64 := arm_ne _ (by decide)
  have u65 : fbm y 65 = fwm y 65 := arm_ne _ (by decide)
  have N2 : CN (fbm y) := (by unfold CN; rw [u2]; exact hn)
  have hQ2 : Q (some (.long (JL (dgs (cmm (fbm y)))))) (cmm (fbm y)) := (by unfold dgm at hQ; rw [hy] at hQ; exact hQ)
  generalize fbm y = z at M2 u2 u5 u7 u64 u65 N2 hQ2 ⊢
  refine x_aload_n (i := 4) (pc' := 9) rfl rfl rfl rfl ?_
  refine m_getf (i := 5) (pc' := 12) rfl rfl flX11_68 (sh0 G) rfl rfl ?_
  refine x_aload_n (i := 6) (pc' := 13) rfl rfl rfl rfl ?_
  refine m_getf (i := 7) (pc' := 16) rfl rfl flX11_10 (sh0 G) rfl rfl ?_
  refine m_getf (i := 8) (pc' := 19) rfl rfl flX11_80 (sh1 G) rfl rfl ?_
  refine m_callV (i := 9) (pc' := 22) (av := [_]) (rest := []) rfl rfl (by decide) lX11_159 (sh73 G) rfl rfl rfl rfl rfl (Nat.le_of_ble_eq_true rfl) (Nat.le_refl _) (Nat.le_refl _) (s_X2_compare M2 N2 ?_)
  dsimp only [psh]
  have C2 := cmm_I M2 N2
  have w2 : cmm z 2 = m 2 := (cmm_ne z (by decide)).trans u2
  have w5 : cmm z 5 = m 5 := (cmm_ne z (by decide)).trans u5
  have w7 : cmm z 7 = m 7 := (cmm_ne z (by decide)).trans u7
  have w64 : cmm z 64 = fwm y 64 := (cmm_ne z (by decide)).trans u64
  have w65 : cmm z 65 = fwm y 65 := (cmm_ne z (by decide)).trans u65
  have z2 := congrFun u2 2
  generalize cmm z = v at C2 w2 w5 w7 w64 w65 hQ2 ⊢
  refine x_ldc2 (i := 10) (pc' := 25) rfl rfl kX11_267 ?_
  refine x_lstore_n (L' := [some _, some _, none, none]) (i := 11) (pc' := 26) rfl rfl rfl rfl (by decide) rfl ?_
  refine x_iconst (i := 12) (pc' := 27) rfl rfl ?_
  refine x_istore_n (L' := [some _, some _, none, some _]) (i := 13) (pc' := 28) rfl rfl rfl rfl (by decide) rfl ?_
  exact dg_tail C2.2.1 (by unfold CN; rw [w2]; exact hn) (by unfold SN; rw [w5]; exact hs) (by rw [w64]; exact c64) (by rw [w64, w65]; exact g4) (by unfold POS; rw [w7]; exact hpo) (fun i a b => by (have := C2.2.2 i a b; omega)) hQ2
def lax (m : Mem) (o : Int) : Mem := if lac m o 6 0 0 = 0 then lam m o else m
noncomputable def xcr (m : Mem) (n : Int) : Int := if m 54 n = 115 then adr m (nmb m n 0) (nmb m n 1) (nmb m n 2) (nmb m n 3) (nmb m n 4) else if m 54 n = 119 then (if m 55 n = 2 then awr m (nmb m n 0) (-1) (nmb m n 1) else awr m (nmb m n 0) (nmb m n 1) (nmb m n 2)) else if m 54 n = 103 then wtr m (nmb m n 0) (nmb m n 1) else if m 54 n = 108 then lac m n 6 0 0 else if m 54 n = 100 then dpr m (nmb m n 0) else if m 54 n = 99 then m 5 1 else -2
noncomputable def xcx (m : Mem) (n : Int) : Mem := if m 54 n = 115 then adx m (nmb m n 0) (nmb m n 1) (nmb m n 2) (nmb m n 3) (nmb m n 4) else if m 54 n = 119 then (if m 55 n = 2 then awx m (nmb m n 0) (-1) (nmb m n 1) else awx m (nmb m n 0) (nmb m n 1) (nmb m n 2)) else if m 54 n = 103 then wtx m (nmb m n 0) (nmb m n 1) else if m 54 n = 108 then lax m n else if m 54 n = 100 then dpx m (nmb m n 0) else if m 54 n = 99 then stm m 5 1 0 else m
theorem s_X11_execute {G : GG} {m : Mem} {Q : Option Value → Mem → Prop} {a : Int} (hM : MR m) (hn : CN m) (hs : SN m) (hlo : ∀ i, 0 ≤ i → i < m 5 1 → 0 ≤ m 6 (i * 3)) (ho : 0 ≤ m 52 6 ∧ m 52 6 ≤ 60) (ha : 0 ≤ a ∧ a < m 52 6) (hc : 0 ≤ m 55 a ∧ m 55 a ≤ 6) (hQ : Q (some (.int (J (xcr m a)))) (xcx m a)) : CM G 5 mX11_execute [.ref (G.2.2.2 0), .int (J (a))] m Q := by
  refine CM.of dkX11_execute (Or.inl rfl) [some _, some _, none, none, none] rfl (Nat.le_of_ble_eq_true rfl) ?_
  have n0 := nmb_rg hM a 0; have n1 := nmb_rg hM a 1; have n2 := nmb_rg hM a 2; have n3 := nmb_rg hM a 3; have n4 := nmb_rg hM a 4
  have q0 : (if 0 < m 55 a then m 56 (a * 6 + 0) else -1) = nmb m a 0 := rfl
  have q1 : (if 1 < m 55 a then m 56 (a * 6 + 1) else -1) = nmb m a 1 := rfl
  have q2 : (if 2 < m 55 a then m 56 (a * 6 + 2) else -1) = nmb m a 2 := rfl
  have q3 : (if 3 < m 55 a then m 56 (a * 6 + 3) else -1) = nmb m a 3 := rfl
  have q4 : (if 4 < m 55 a then m 56 (a * 6 + 4) else -1) = nmb m a 4 := rfl
  have hl := hM 54 a
  refine x_aload_n (i := 0) (pc' := 1) rfl rfl rfl rfl ?_
  refine m_getf (i := 1) (pc' := 4) rfl rfl flX11_26 (sh0 G) rfl rfl ?_
  refine x_iload_n (i := 2) (pc' := 5) rfl rfl rfl rfl ?_
  refine x_iconst (i := 3) (pc' := 6) rfl rfl ?_
  refine m_callV (i := 4) (pc' := 9) (av := [_, _]) (rest := []) rfl rfl (by decide) lX11_283 (sh52 G) rfl rfl rfl rfl rfl (Nat.le_of_ble_eq_true rfl) (Nat.le_refl _) (Nat.le_refl _) (s_X7_number ho (by omega) (by omega) (by omega) ?_)
  dsimp only [psh]
  rw [q0]
  refine x_istore_n (L' := [some _, some _, some _, none, none]) (i := 5) (pc' := 10) rfl rfl rfl rfl (by decide) rfl ?_
  refine x_aload_n (i := 6) (pc' := 11) rfl rfl rfl rfl ?_
  refine m_getf (i := 7) (pc' := 14) rfl rfl flX11_26 (sh0 G) rfl rfl ?_
  refine x_iload_n (i := 8) (pc' := 15) rfl rfl rfl rfl ?_
  refine x_iconst (i := 9) (pc' := 16) rfl rfl ?_
  refine m_callV (i := 10) (pc' := 19) (av := [_, _]) (rest := []) rfl rfl (by decide) lX11_283 (sh52 G) rfl rfl rfl rfl rfl (Nat.le_of_ble_eq_true rfl) (Nat.le_refl _) (Nat.le_refl _) (s_X7_number ho (by omega) (by omega) (by omega) ?_)
  dsimp only [psh]
  rw [q1]
  refine x_istore_n (L' := [some _, some _, some _, some _, none]) (i := 11) (pc' := 20) rfl rfl rfl rfl (by decide) rfl ?_
  refine x_aload_n (i := 12) (pc' := 21) rfl rfl rfl rfl ?_
  refine m_getf (i := 13) (pc' := 24) rfl rfl flX11_26 (sh0 G) rfl rfl ?_
  refine x_iload_n (i := 14) (pc' := 25) rfl rfl rfl rfl ?_
  refine x_iconst (i := 15) (pc' := 26) rfl rfl ?_
  refine m_callV (i := 16) (pc' := 29) (av := [_, _]) (rest := []) rfl rfl (by decide) lX11_283 (sh52 G) rfl rfl rfl rfl rfl (Nat.le_of_ble_eq_true rfl) (Nat.le_refl _) (Nat.le_refl _) (s_X7_number ho (by omega) (by omega) (by omega) ?_)
  dsimp only [psh]
  rw [q2]
  refine x_istore (L' := [some _, some _, some _, some _, some _]) (i := 17) (pc' := 31) rfl rfl rfl (by decide) rfl ?_
  refine x_aload_n (i := 18) (pc' := 32) rfl rfl rfl rfl ?_
  refine m_getf (i := 19) (pc' := 35) rfl rfl flX11_26 (sh0 G) rfl rfl ?_
  refine x_iload_n (i := 20) (pc' := 36) rfl rfl rfl rfl ?_
  refine m_callV (i := 21) (pc' := 39) (av := [_]) (rest := []) rfl rfl (by decide) lX11_285 (sh52 G) rfl rfl rfl rfl rfl (Nat.le_of_ble_eq_true rfl) (Nat.le_refl _) (Nat.le_refl _) (s_X7_letter ho (by omega) ?_)
  dsimp only [psh]
  rcases (by omega : (m 54 a) = 99 ∨ (m 54 a) = 100 ∨ (m 54 a) = 103 ∨ (m 54 a) = 108 ∨ (m 54 a) = 115 ∨ (m 54 a) = 119 ∨ (¬ (m 54 a) = 99 ∧ ¬ (m 54 a) = 100 ∧ ¬ (m 54 a) = 103 ∧ ¬ (m 54 a) = 108 ∧ ¬ (m 54 a) = 115 ∧ ¬ (m 54 a) = 119)) with c1 | c1 | c1 | c1 | c1 | c1 | c1
  · first | (exfalso; omega; done) | skip
    all_goals (
      refine x_look (i := 22) (off := 162) (tgt := 201) rfl (by decide) (by first | omega | exact hM _ _) (by rw [c1]; rfl) (by decide) ?_
      refine x_aload_n (i := 80) (pc' := 202) rfl rfl rfl rfl ?_
      refine m_getf (i := 81) (pc' := 205) rfl rfl flX11_10 (sh0 G) rfl rfl ?_
      refine m_getf (i := 82) (pc' := 208) rfl rfl flX11_179 (sh1 G) rfl rfl ?_
      refine m_callV (i := 83) (pc' := 211) (av := []) (rest := []) rfl rfl (by decide) lX11_191 (sh5 G) rfl rfl rfl rfl rfl (Nat.le_of_ble_eq_true rfl) (Nat.le_refl _) (Nat.le_refl _) (s_X8_removeAll ?_)
      dsimp only [psh]
      exact m_ireturn (i := 84) rfl rfl (by unfold xcr xcx at hQ; (repeat' split at hQ) <;> first | (exfalso; omega; done) | exact hQ)
      skip)
  · first | (exfalso; omega; done) | skip
    all_goals (
      refine x_look (i := 22) (off := 153) (tgt := 192) rfl (by decide) (by first | omega | exact hM _ _) (by rw [c1]; rfl) (by decide) ?_
      refine x_aload_n (i := 75) (pc' := 193) rfl rfl rfl rfl ?_
      refine m_getf (i := 76) (pc' := 196) rfl rfl flX11_10 (sh0 G) rfl rfl ?_
      refine x_iload_n (i := 77) (pc' := 197) rfl rfl rfl rfl ?_
      refine m_callV (i := 78) (pc' := 200) (av := [_]) (rest := []) rfl rfl (by decide) lX11_98 (sh1 G) rfl rfl rfl rfl rfl (Nat.le_of_ble_eq_true rfl) (Nat.le_refl _) (Nat.le_refl _) (s_X9_removeSign hM hn hs hlo n0 ?_)
      dsimp only [psh]
      exact m_ireturn (i := 79) rfl rfl (by unfold xcr xcx at hQ; (repeat' split at hQ) <;> first | (exfalso; omega; done) | exact hQ)
      skip)
  · first | (exfalso; omega; done) | skip
    all_goals (
      refine x_look (i := 22) (off := 127) (tgt := 166) rfl (by decide) (by first | omega | exact hM _ _) (by rw [c1]; rfl) (by decide) ?_
      refine x_aload_n (i := 61) (pc' := 167) rfl rfl rfl rfl ?_
      refine m_getf (i := 62) (pc' := 170) rfl rfl flX11_10 (sh0 G) rfl rfl ?_
      refine m_getf (i := 63) (pc' := 173) rfl rfl flX11_80 (sh1 G) rfl rfl ?_
      refine x_iload_n (i := 64) (pc' := 174) rfl rfl rfl rfl ?_
      refine x_iload_n (i := 65) (pc' := 175) rfl rfl rfl rfl ?_
      refine m_callV (i := 66) (pc' := 178) (av := [_, _]) (rest := []) rfl rfl (by decide) lX11_101 (sh2 G) rfl rfl rfl rfl rfl (Nat.le_of_ble_eq_true rfl) (Nat.le_refl _) (Nat.le_refl _) (s_X3_setWeight n0 n1 ?_)
      dsimp only [psh]
      exact m_ireturn (i := 67) rfl rfl (by unfold xcr xcx at hQ; (repeat' split at hQ) <;> first | (exfalso; omega; done) | exact hQ)
      skip)
  · first | (exfalso; omega; done) | skip
    all_goals (
      refine x_look (i := 22) (off := 140) (tgt := 179) rfl (by decide) (by first | omega | exact hM _ _) (by rw [c1]; rfl) (by decide) ?_
      refine x_aload_n (i := 68) (pc' := 180) rfl rfl rfl rfl ?_
      refine m_getf (i := 69) (pc' := 183) rfl rfl flX11_10 (sh0 G) rfl rfl ?_
      refine x_aload_n (i := 70) (pc' := 184) rfl rfl rfl rfl ?_
      refine m_getf (i := 71) (pc' := 187) rfl rfl flX11_26 (sh0 G) rfl rfl ?_
      refine x_iload_n (i := 72) (pc' := 188) rfl rfl rfl rfl ?_
      refine m_callV (i := 73) (pc' := 191) (av := [_, _]) (rest := []) rfl rfl (by decide) lX11_291 (sh1 G) rfl rfl rfl rfl rfl (Nat.le_of_ble_eq_true rfl) (Nat.le_refl _) (Nat.le_refl _) (s_X9_layAll hM ho (by omega) hc ?_)
      dsimp only [psh]
      exact m_ireturn (i := 74) rfl rfl (by unfold xcr xcx at hQ; (repeat' split at hQ) <;> first | (exfalso; omega; done) | exact hQ)
      skip)
  · first | (exfalso; omega; done) | skip
    all_goals (
      refine x_look (i := 22) (off := 57) (tgt := 96) rfl (by decide) (by first | omega | exact hM _ _) (by rw [c1]; rfl) (by decide) ?_
      refine x_aload_n (i := 23) (pc' := 97) rfl rfl rfl rfl ?_
      refine m_getf (i := 24) (pc' := 100) rfl rfl flX11_10 (sh0 G) rfl rfl ?_
      refine m_getf (i := 25) (pc' := 103) rfl rfl flX11_80 (sh1 G) rfl rfl ?_
      refine x_iload_n (i := 26) (pc' := 104) rfl rfl rfl rfl ?_
      refine x_iload_n (i := 27) (pc' := 105) rfl rfl rfl rfl ?_
      refine x_iload (i := 28) (pc' := 107) rfl rfl rfl ?_
      refine x_aload_n (i := 29) (pc' := 108) rfl rfl rfl rfl ?_
      refine m_getf (i := 30) (pc' := 111) rfl rfl flX11_26 (sh0 G) rfl rfl ?_
      refine x_iload_n (i := 31) (pc' := 112) rfl rfl rfl rfl ?_
      refine x_iconst (i := 32) (pc' := 113) rfl rfl ?_
      refine m_callV (i := 33) (pc' := 116) (av := [_, _]) (rest := [_, _, _, _]) rfl rfl (by decide) lX11_283 (sh52 G) rfl rfl rfl rfl rfl (Nat.le_of_ble_eq_true rfl) (Nat.le_refl _) (Nat.le_refl _) (s_X7_number ho (by omega) (by omega) (by omega) ?_)
      dsimp only [psh]
      rw [q3]
      refine x_aload_n (i := 34) (pc' := 117) rfl rfl rfl rfl ?_
      refine m_getf (i := 35) (pc' := 120) rfl rfl flX11_26 (sh0 G) rfl rfl ?_
      refine x_iload_n (i := 36) (pc' := 121) rfl rfl rfl rfl ?_
      refine x_iconst (i := 37) (pc' := 122) rfl rfl ?_
      refine m_callV (i := 38) (pc' := 125) (av := [_, _]) (rest := [_, _, _, _, _]) rfl rfl (by decide) lX11_283 (sh52 G) rfl rfl rfl rfl rfl (Nat.le_of_ble_eq_true rfl) (Nat.le_refl _) (Nat.le_refl _) (s_X7_number ho (by omega) (by omega) (by omega) ?_)
      dsimp only [psh]
      rw [q4]
      refine m_callV (i := 39) (pc' := 128) (av := [_, _, _, _, _]) (rest := []) rfl rfl (by decide) lX11_84 (sh2 G) rfl rfl rfl rfl rfl (Nat.le_of_ble_eq_true rfl) (Nat.le_refl _) (Nat.le_refl _) (s_X3_addSign hM hn n0 n1 n2 n3 n4 ?_)
      dsimp only [psh]
      exact m_ireturn (i := 40) rfl rfl (by unfold xcr xcx at hQ; (repeat' split at hQ) <;> first | (exfalso; omega; done) | exact hQ)
      skip)
  · first | (exfalso; omega; done) | skip
    all_goals (
      refine x_look (i := 22) (off := 90) (tgt := 129) rfl (by decide) (by first | omega | exact hM _ _) (by rw [c1]; rfl) (by decide) ?_
      refine x_aload_n (i := 41) (pc' := 130) rfl rfl rfl rfl ?_
      refine m_getf (i := 42) (pc' := 133) rfl rfl flX11_26 (sh0 G) rfl rfl ?_
      refine x_iload_n (i := 43) (pc' := 134) rfl rfl rfl rfl ?_
      refine m_callV (i := 44) (pc' := 137) (av := [_]) (rest := []) rfl rfl (by decide) lX11_288 (sh52 G) rfl rfl rfl rfl rfl (Nat.le_of_ble_eq_true rfl) (Nat.le_refl _) (Nat.le_refl _) (s_X7_numbers ho (by omega) ?_)
      dsimp only [psh]
      refine x_iconst (i := 45) (pc' := 138) rfl rfl ?_
      refine x_icmpne (i := 46) (pc' := 141) (tgt := 154) rfl rfl (by decide) (by first | omega | exact hM _ _) (by first | omega | exact hM _ _) (fun c2 => ?_) (fun c2 => ?_)
      · skip
        refine x_aload_n (i := 54) (pc' := 155) rfl rfl rfl rfl ?_
        refine m_getf (i := 55) (pc' := 158) rfl rfl flX11_10 (sh0 G) rfl rfl ?_
        refine x_iload_n (i := 56) (pc' := 159) rfl rfl rfl rfl ?_
        refine x_iload_n (i := 57) (pc' := 160) rfl rfl rfl rfl ?_
        refine x_iload (i := 58) (pc' := 162) rfl rfl rfl ?_
        refine m_callV (i := 59) (pc' := 165) (av := [_, _, _]) (rest := []) rfl rfl (by decide) lX11_176 (sh1 G) rfl rfl rfl rfl rfl (Nat.le_of_ble_eq_true rfl) (Nat.le_refl _) (Nat.le_refl _) (s_X9_addWord hn hs n0 (by omega) (by omega) ?_)
        dsimp only [psh]
        exact m_ireturn (i := 60) rfl rfl (by unfold xcr xcx at hQ; (repeat' split at hQ) <;> first | (exfalso; omega; done) | exact hQ)
      · skip
        refine x_aload_n (i := 47) (pc' := 142) rfl rfl rfl rfl ?_
        refine m_getf (i := 48) (pc' := 145) rfl rfl flX11_10 (sh0 G) rfl rfl ?_
        refine x_iload_n (i := 49) (pc' := 146) rfl rfl rfl rfl ?_
        refine x_iconst (i := 50) (pc' := 147) rfl rfl ?_
        refine x_iload_n (i := 51) (pc' := 148) rfl rfl rfl rfl ?_
        refine m_callV (i := 52) (pc' := 151) (av := [_, _, _]) (rest := []) rfl rfl (by decide) lX11_176 (sh1 G) rfl rfl rfl rfl rfl (Nat.le_of_ble_eq_true rfl) (Nat.le_refl _) (Nat.le_refl _) (s_X9_addWord hn hs n0 (by omega) (by omega) ?_)
        dsimp only [psh]
        refine x_goto (i := 53) (pc' := 165) rfl (by decide) ?_
        exact m_ireturn (i := 60) rfl rfl (by unfold xcr xcx at hQ; (repeat' split at hQ) <;> first | (exfalso; omega; done) | exact hQ)
      skip)
  · first | (exfalso; omega; done) | skip
    all_goals (
      refine x_look (i := 22) (off := 173) (tgt := 212) rfl (by decide) (by first | omega | exact hM _ _) (by simp [Op.lookupswitch.offset]; (repeat' split) <;> omega) (by decide) ?_
      refine x_bipush (i := 85) (pc' := 214) rfl rfl (by decide) ?_
      exact m_ireturn (i := 86) rfl rfl (by unfold xcr xcx at hQ; (repeat' split at hQ) <;> first | (exfalso; omega; done) | exact hQ)
      skip)
