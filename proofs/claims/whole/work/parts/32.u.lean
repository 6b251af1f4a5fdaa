def awr (m : Mem) (k f t : Int) : Int := if (0 ≤ k ∧ k < m 2 2) ∧ (-1 ≤ f ∧ f ≤ 5) ∧ (-1 ≤ t ∧ t ≤ 5) then (if m 5 1 < 16 then m 5 1 else -4) else -2
def awx (m : Mem) (k f t : Int) : Mem := if ((0 ≤ k ∧ k < m 2 2) ∧ (-1 ≤ f ∧ f ≤ 5) ∧ (-1 ≤ t ∧ t ≤ 5)) ∧ m 5 1 < 16 then apw m k f t else m
theorem awx_ne (m : Mem) (k f t : Int) {q : Nat} (h : q ≠ 5) (h2 : q ≠ 6) : awx m k f t q = m q := by
  unfold awx apw putm
  split
  · rw [stm_ne _ _ _ h, stm_ne _ _ _ h2, stm_ne _ _ _ h2, stm_ne _ _ _ h2]
  · rfl
def cur (m : Mem) (k : Int) : Int := if 0 ≤ k ∧ k < m 5 1 then m 5 1 - 1 else -2
def cux (m : Mem) (k : Int) : Mem := if 0 ≤ k ∧ k < m 5 1 then rmw m k else m
theorem cux_ne (m : Mem) (k : Int) {q : Nat} (h : q ≠ 5) (h2 : q ≠ 6) : cux m k q = m q := by
  unfold cux rmw mvm
  split
  · rw [stm_ne _ _ _ h, sr_ne _ _ h2]
  · rfl
def shr_ (m : Mem) (i j : Int) : Int := if (0 ≤ i ∧ i < m 5 1) ∧ (0 ≤ j ∧ j < m 5 1) then ab (i - j) else -2
def shx (m : Mem) (i j : Int) : Mem := if (0 ≤ i ∧ i < m 5 1) ∧ (0 ≤ j ∧ j < m 5 1) then shf m i j else m
theorem shx_ne (m : Mem) (i j : Int) {q : Nat} (h2 : q ≠ 6) : shx m i j q = m q := by
  unfold shx shf putm mvm
  split
  · rw [stm_ne _ _ _ h2, stm_ne _ _ _ h2, stm_ne _ _ _ h2]
    split <;> exact sr_ne _ _ h2
  · rfl
def lyr (m : Mem) (a v : Int) : Int := if (0 ≤ a ∧ a ≤ 5) ∧ (0 ≤ v ∧ v ≤ 5) then m 7 a else -2
def lyx (m : Mem) (a v : Int) : Mem := if (0 ≤ a ∧ a ≤ 5) ∧ (0 ≤ v ∧ v ≤ 5) then lyo m a v else m
theorem lyx_ne (m : Mem) (a v : Int) {q : Nat} (h2 : q ≠ 7) : lyx m a v q = m q := by
  unfold lyx lyo
  split
  · rw [stm_ne _ _ _ h2, it_8 (q := q)]
    intro i x
    split <;> first | exact stm_ne _ _ _ h2 | rfl
  · rfl
theorem s_X11_word {G : GG} {m : Mem} {Q : Option Value → Mem → Prop} {a b c : Int} (h : GI m) (ra : rg a) (rb : rg b) (rc : rg c) (hQ : Q (some (.int (J (awr (stg m) a b c)))) (udm (awx (stg m) a b c) (awr (stg m) a b c))) : CM G 4 mX11_word [.ref (G.2.2.2 0), .int (J (a)), .int (J (b)), .int (J (c))] m Q := by
  refine CM.of dkX11_word (Or.inl rfl) [some _, some _, some _, some _] rfl (Nat.le_of_ble_eq_true rfl) ?_
  obtain ⟨hM, ⟨hn, hs, hv, hst, hw, hwd, hpo⟩, hx, htx, htr, her⟩ := stg_GI h
  have hx0 := h.2.2.1; have hx1 := hx0.1
  have hn0 := hn.1; have hn1 := hn.2; have hs0 := hs.1; have hs1 := hs.2
  have hr : -4 ≤ awr (stg m) a b c ∧ awr (stg m) a b c ≤ 16 := (by unfold awr; (repeat' split) <;> omega)
  refine x_aload_n (i := 0) (pc' := 1) rfl rfl rfl rfl ?_
  refine m_getf (i := 1) (pc' := 4) rfl rfl flX11_19 (sh0 G) rfl rfl ?_
  refine x_aload_n (i := 2) (pc' := 5) rfl rfl rfl rfl ?_
  refine m_getf (i := 3) (pc' := 8) rfl rfl flX11_10 (sh0 G) rfl rfl ?_
  refine m_callV (i := 4) (pc' := 11) (av := [_]) (rest := []) rfl rfl (by decide) lX11_76 (sh8 G) rfl rfl rfl rfl rfl (Nat.le_of_ble_eq_true rfl) (Nat.le_refl _) (Nat.le_refl _) (s_X5_stage (by omega) ?_)
  dsimp only [psh]
  refine x_aload_n (i := 5) (pc' := 12) rfl rfl rfl rfl ?_
  refine x_aload_n (i := 6) (pc' := 13) rfl rfl rfl rfl ?_
  refine m_getf (i := 7) (pc' := 16) rfl rfl flX11_10 (sh0 G) rfl rfl ?_
  refine x_iload_n (i := 8) (pc' := 17) rfl rfl rfl rfl ?_
  refine x_iload_n (i := 9) (pc' := 18) rfl rfl rfl rfl ?_
  refine x_iload_n (i := 10) (pc' := 19) rfl rfl rfl rfl ?_
  refine m_callV (i := 11) (pc' := 22) (av := [_, _, _]) (rest := [_]) rfl rfl (by decide) lX11_176 (sh1 G) rfl rfl rfl rfl rfl (Nat.le_of_ble_eq_true rfl) (Nat.le_refl _) (Nat.le_refl _) (s_X9_addWord hn hs ra rb rc ?_)
  dsimp only [psh]
  refine m_callV (i := 12) (pc' := 25) (av := [_]) (rest := []) rfl rfl (by decide) lX11_90 (sh0 G) rfl rfl rfl rfl rfl (Nat.le_of_ble_eq_true rfl) (Nat.le_refl _) (Nat.le_refl _) (s_X11_undoable (px_of (awx_ne (stg m) a b c (by decide) (by decide)) hx) (er_of (awx_ne (stg m) a b c (by decide) (by decide)) her) (show -5000 ≤ awr (stg m) a b c ∧ awr (stg m) a b c ≤ 100000 by omega) ?_)
  dsimp only [psh]
  exact m_ireturn (i := 13) rfl rfl (hQ)
theorem s_X11_cuts {G : GG} {m : Mem} {Q : Option Value → Mem → Prop} {a : Int} (h : GI m) (ra : rg a) (hQ : Q (some (.int (J (cur (stg m) a)))) (udm (cux (stg m) a) (cur (stg m) a))) : CM G 4 mX11_cuts [.ref (G.2.2.2 0), .int (J (a))] m Q := by
  refine CM.of dkX11_cuts (Or.inl rfl) [some _, some _] rfl (Nat.le_of_ble_eq_true rfl) ?_
  obtain ⟨hM, ⟨hn, hs, hv, hst, hw, hwd, hpo⟩, hx, htx, htr, her⟩ := stg_GI h
  have hx0 := h.2.2.1; have hx1 := hx0.1
  have hn0 := hn.1; have hn1 := hn.2; have hs0 := hs.1; have hs1 := hs.2
  have hr : -4 ≤ cur (stg m) a ∧ cur (stg m) a ≤ 16 := (by unfold cur; (repeat' split) <;> omega)
  refine x_aload_n (i := 0) (pc' := 1) rfl rfl rfl rfl ?_
  refine m_getf (i := 1) (pc' := 4) rfl rfl flX11_19 (sh0 G) rfl rfl ?_
  refine x_aload_n (i := 2) (pc' := 5) rfl rfl rfl rfl ?_
  refine m_getf (i := 3) (pc' := 8) rfl rfl flX11_10 (sh0 G) rfl rfl ?_
  refine m_callV (i := 4) (pc' := 11) (av := [_]) (rest := []) rfl rfl (by decide) lX11_76 (sh8 G) rfl rfl rfl rfl rfl (Nat.le_of_ble_eq_true rfl) (Nat.le_refl _) (Nat.le_refl _) (s_X5_stage (by omega) ?_)
  dsimp only [psh]
  refine x_aload_n (i := 5) (pc' := 12) rfl rfl rfl rfl ?_
  refine x_aload_n (i := 6) (pc' := 13) rfl rfl rfl rfl ?_
  refine m_getf (i := 7) (pc' := 16) rfl rfl flX11_10 (sh0 G) rfl rfl ?_
  refine m_getf (i := 8) (pc' := 19) rfl rfl flX11_179 (sh1 G) rfl rfl ?_
  refine x_iload_n (i := 9) (pc' := 20) rfl rfl rfl rfl ?_
  refine m_callV (i := 10) (pc' := 23) (av := [_]) (rest := [_]) rfl rfl (by decide) lX11_183 (sh5 G) rfl rfl rfl rfl rfl (Nat.le_of_ble_eq_true rfl) (Nat.le_refl _) (Nat.le_refl _) (s_X8_remove hs ra ?_)
  dsimp only [psh]
  refine m_callV (i := 11) (pc' := 26) (av := [_]) (rest := []) rfl rfl (by decide) lX11_90 (sh0 G) rfl rfl rfl rfl rfl (Nat.le_of_ble_eq_true rfl) (Nat.le_refl _) (Nat.le_refl _) (s_X11_undoable (px_of (cux_ne (stg m) a (by decide) (by decide)) hx) (er_of (cux_ne (stg m) a (by decide) (by decide)) her) (show -5000 ≤ cur (stg m) a ∧ cur (stg m) a ≤ 100000 by omega) ?_)
  dsimp only [psh]
  exact m_ireturn (i := 12) rfl rfl (hQ)
theorem s_X11_shifts {G : GG} {m : Mem} {Q : Option Value → Mem → Prop} {a b : Int} (h : GI m) (ra : rg a) (rb : rg b) (hQ : Q (some (.int (J (shr_ (stg m) a b)))) (udm (shx (stg m) a b) (shr_ (stg m) a b))) : CM G 4 mX11_shifts [.ref (G.2.2.2 0), .int (J (a)), .int (J (b))] m Q := by
  refine CM.of dkX11_shifts (Or.inl rfl) [some _, some _, some _] rfl (Nat.le_of_ble_eq_true rfl) ?_
  obtain ⟨hM, ⟨hn, hs, hv, hst, hw, hwd, hpo⟩, hx, htx, htr, her⟩ := stg_GI h
  have hx0 := h.2.2.1; have hx1 := hx0.1
  have hn0 := hn.1; have hn1 := hn.2; have hs0 := hs.1; have hs1 := hs.2
  have hr : -4 ≤ shr_ (stg m) a b ∧ shr_ (stg m) a b ≤ 16 := (by unfold shr_ ab; (repeat' split) <;> omega)
  refine x_aload_n (i := 0) (pc' := 1) rfl rfl rfl rfl ?_
  refine m_getf (i := 1) (pc' := 4) rfl rfl flX11_19 (sh0 G) rfl rfl ?_
  refine x_aload_n (i := 2) (pc' := 5) rfl rfl rfl rfl ?_
  refine m_getf (i := 3) (pc' := 8) rfl rfl flX11_10 (sh0 G) rfl rfl ?_
  refine m_callV (i := 4) (pc' := 11) (av := [_]) (rest := []) rfl rfl (by decide) lX11_76 (sh8 G) rfl rfl rfl rfl rfl (Nat.le_of_ble_eq_true rfl) (Nat.le_refl _) (Nat.le_refl _) (s_X5_stage (by omega) ?_)
  dsimp only [psh]
  refine x_aload_n (i := 5) (pc' := 12) rfl rfl rfl rfl ?_
  refine x_aload_n (i := 6) (pc' := 13) rfl rfl rfl rfl ?_
  refine m_getf (i := 7) (pc' := 16) rfl rfl flX11_10 (sh0 G) rfl rfl ?_
  refine m_getf (i := 8) (pc' := 19) rfl rfl flX11_179 (sh1 G) rfl rfl ?_
  refine x_iload_n (i := 9) (pc' := 20) rfl rfl rfl rfl ?_
  refine x_iload_n (i := 10) (pc' := 21) rfl rfl rfl rfl ?_
  refine m_callV (i := 11) (pc' := 24) (av := [_, _]) (rest := [_]) rfl rfl (by decide) lX11_188 (sh5 G) rfl rfl rfl rfl rfl (Nat.le_of_ble_eq_true rfl) (Nat.le_refl _) (Nat.le_refl _) (s_X8_move hs ra rb ?_)
  dsimp only [psh]
  refine m_callV (i := 12) (pc' := 27) (av := [_]) (rest := []) rfl rfl (by decide) lX11_90 (sh0 G) rfl rfl rfl rfl rfl (Nat.le_of_ble_eq_true rfl) (Nat.le_refl _) (Nat.le_refl _) (s_X11_undoable (px_of (shx_ne (stg m) a b (by decide)) hx) (er_of (shx_ne (stg m) a b (by decide)) her) (show -5000 ≤ shr_ (stg m) a b ∧ shr_ (stg m) a b ≤ 100000 by omega) ?_)
  dsimp only [psh]
  exact m_ireturn (i := 13) rfl rfl (hQ)
theorem s_X11_lays {G : GG} {m : Mem} {Q : Option Value → Mem → Prop} {a b : Int} (h : GI m) (ra : rg a) (rb : rg b) (hQ : Q (some (.int (J (lyr (stg m) a b)))) (udm (lyx (stg m) a b) (lyr (stg m) a b))) : CM G 4 mX11_lays [.ref (G.2.2.2 0), .int (J (a)), .int (J (b))] m Q := by
  refine CM.of dkX11_lays (Or.inl rfl) [some _, some _, some _] rfl (Nat.le_of_ble_eq_true rfl) ?_
  obtain ⟨hM, ⟨hn, hs, hv, hst, hw, hwd, hpo⟩, hx, htx, htr, her⟩ := stg_GI h
  have hx0 := h.2.2.1; have hx1 := hx0.1
  have hn0 := hn.1; have hn1 := hn.2; have hs0 := hs.1; have hs1 := hs.2
  have hr : -4 ≤ lyr (stg m) a b ∧ lyr (stg m) a b ≤ 16 := (by unfold lyr; split <;> first | (have := hpo a (by omega) (by omega); omega) | omega)
  refine x_aload_n (i := 0) (pc' := 1) rfl rfl rfl rfl ?_
  refine m_getf (i := 1) (pc' := 4) rfl rfl flX11_19 (sh0 G) rfl rfl ?_
  refine x_aload_n (i := 2) (pc' := 5) rfl rfl rfl rfl ?_
  refine m_getf (i := 3) (pc' := 8) rfl rfl flX11_10 (sh0 G) rfl rfl ?_
  refine m_callV (i := 4) (pc' := 11) (av := [_]) (rest := []) rfl rfl (by decide) lX11_76 (sh8 G) rfl rfl rfl rfl rfl (Nat.le_of_ble_eq_true rfl) (Nat.le_refl _) (Nat.le_refl _) (s_X5_stage (by omega) ?_)
  dsimp only [psh]
  refine x_aload_n (i := 5) (pc' := 12) rfl rfl rfl rfl ?_
  refine x_aload_n (i := 6) (pc' := 13) rfl rfl rfl rfl ?_
  refine m_getf (i := 7) (pc' := 16) rfl rfl flX11_10 (sh0 G) rfl rfl ?_
  refine x_iload_n (i := 8) (pc' := 17) rfl rfl rfl rfl ?_
  refine x_iload_n (i := 9) (pc' := 18) rfl rfl rfl rfl ?_
  refine m_callV (i := 10) (pc' := 21) (av := [_, _]) (rest := [_]) rfl rfl (by decide) lX11_214 (sh1 G) rfl rfl rfl rfl rfl (Nat.le_of_ble_eq_true rfl) (Nat.le_refl _) (Nat.le_refl _) (s_X9_layOne hM ra rb ?_)
  dsimp only [psh]
  refine m_callV (i := 11) (pc' := 24) (av := [_]) (rest := []) rfl rfl (by decide) lX11_90 (sh0 G) rfl rfl rfl rfl rfl (Nat.le_of_ble_eq_true rfl) (Nat.le_refl _) (Nat.le_refl _) (s_X11_undoable (px_of (lyx_ne (stg m) a b (by decide)) hx) (er_of (lyx_ne (stg m) a b (by decide)) her) (show -5000 ≤ lyr (stg m) a b ∧ lyr (stg m) a b ≤ 100000 by omega) ?_)
  dsimp only [psh]
  exact m_ireturn (i := 12) rfl rfl (hQ)
theorem s_X11_clears {G : GG} {m : Mem} {Q : Option Value → Mem → Prop} (h : GI m) (hQ : Q (some (.int (J (stg m 5 1)))) (ks (stm (stg m) 5 1 0))) : CM G 4 mX11_clears [.ref (G.2.2.2 0)] m Q := by
  refine CM.of dkX11_clears (Or.inl rfl) [some _] rfl (Nat.le_of_ble_eq_true rfl) ?_
  obtain ⟨hM, ⟨hn, hs, hv, hst, hw, hwd, hpo⟩, hx, htx, htr, her⟩ := stg_GI h
  have hx0 := h.2.2.1; have hx1 := hx0.1
  have hs0 := hs.1; have hs1 := hs.2
  refine x_aload_n (i := 0) (pc' := 1) rfl rfl rfl rfl ?_
  refine m_getf (i := 1) (pc' := 4) rfl rfl flX11_19 (sh0 G) rfl rfl ?_
  refine x_aload_n (i := 2) (pc' := 5) rfl rfl rfl rfl ?_
  refine m_getf (i := 3) (pc' := 8) rfl rfl flX11_10 (sh0 G) rfl rfl ?_
  refine m_callV (i := 4) (pc' := 11) (av := [_]) (rest := []) rfl rfl (by decide) lX11_76 (sh8 G) rfl rfl rfl rfl rfl (Nat.le_of_ble_eq_true rfl) (Nat.le_refl _) (Nat.le_refl _) (s_X5_stage (by omega) ?_)
  dsimp only [psh]
  refine x_aload_n (i := 5) (pc' := 12) rfl rfl rfl rfl ?_
  refine x_aload_n (i := 6) (pc' := 13) rfl rfl rfl rfl ?_
  refine m_getf (i := 7) (pc' := 16) rfl rfl flX11_10 (sh0 G) rfl rfl ?_
  refine m_getf (i := 8) (pc' := 19) rfl rfl flX11_179 (sh1 G) rfl rfl ?_
  refine m_callV (i := 9) (pc' := 22) (av := []) (rest := [_]) rfl rfl (by decide) lX11_191 (sh5 G) rfl rfl rfl rfl rfl (Nat.le_of_ble_eq_true rfl) (Nat.le_refl _) (Nat.le_refl _) (s_X8_removeAll ?_)
  dsimp only [psh]
  refine m_callV (i := 10) (pc' := 25) (av := [_]) (rest := []) rfl rfl (by decide) lX11_90 (sh0 G) rfl rfl rfl rfl rfl (Nat.le_of_ble_eq_true rfl) (Nat.le_refl _) (Nat.le_refl _) (s_X11_undoable (m := stm (stg m) 5 1 0) hx her (by omega) ?_)
  dsimp only [psh]
  exact m_ireturn (i := 11) rfl rfl (by unfold udm; rw [if_pos (by omega)]; exact hQ)
def stx (x : Mem) : Mem := sr x 7 (cpr (x 69) (x 7) 0 0 6)
theorem stx_ne (x : Mem) {q : Nat} (h : q ≠ 7) : stx x q = x q := sr_ne _ _ h
theorem ple_le {m : Mem} (hc : 0 ≤ m 64 1 ∧ m 64 1 ≤ 32) (hp : ∀ n, 0 ≤ n → n < m 64 1 → 0 ≤ m 65 n ∧ m 65 n ≤ 5) (hpo : POS m) : 0 ≤ ple m ∧ ple m ≤ 400 := by
  have := it_Ij (f := fun n x => x + ab (m 7 (m 65 n) - m 7 (m 65 (n - 1)))) (fun j x => 0 ≤ x ∧ x ≤ 10 * j) (m 64 1 - 1).toNat 1 0 (fun i y h1 h2 h3 => by
    have a1 := hp i (by omega) (by omega); have a2 := hp (i - 1) (by omega) (by omega)
    have a3 := hpo _ a1.1 a1.2; have a4 := hpo _ a2.1 a2.2
    have a5 := ab_le (x := m 7 (m 65 i) - m 7 (m 65 (i - 1))) (n := 5) (by omega)
    omega) (by omega)
  unfold ple
  omega
theorem s_X11_settles {G : GG} {m : Mem} {Q : Option Value → Mem → Prop} (h : GI m) (hb : 0 ≤ ple (fbm (stg m)) - fbm (stg m) 66 3 ∧ ple (fbm (stg m)) - fbm (stg m) 66 3 ≤ 1000) (hQ : Q (some (.int (J (ple (fbm (stg m)) - fbm (stg m) 66 3)))) (ks (stx (fbm (stg m))))) : CM G 11 mX11_settles [.ref (G.2.2.2 0)] m Q := by
  refine CM.of dkX11_settles (Or.inl rfl) [some _, none] rfl (Nat.le_of_ble_eq_true rfl) ?_
  obtain ⟨hM, ⟨hn, hs, hv, hst, hw, hwd, hpo⟩, hx, htx, htr, her⟩ := stg_GI h
  have hx0 := h.2.2.1; have hx1 := hx0.1
  obtain ⟨f1, f2, f3, f4⟩ := fwm_I hM hs
  have hs0 := hs.1; have hs1 := hs.2
  have e64 : fbm (stg m) 64 = fwm (stg m) 64 := arm_ne _ (by decide)
  have e65 : fbm (stg m) 65 = fwm (stg m) 65 := arm_ne _ (by decide)
  have e7 : fbm (stg m) 7 = stg m 7 := (by unfold fbm; rw [arm_ne _ (by decide), fwm_ne _ (by decide) (by decide)])
  have e8 : fbm (stg m) 8 = stg m 8 := (by unfold fbm; rw [arm_ne _ (by decide), fwm_ne _ (by decide) (by decide)])
  have e75 : fbm (stg m) 75 = stg m 75 := (by unfold fbm; rw [arm_ne _ (by decide), fwm_ne _ (by decide) (by decide)])
  refine x_aload_n (i := 0) (pc' := 1) rfl rfl rfl rfl ?_
  refine m_getf (i := 1) (pc' := 4) rfl rfl flX11_19 (sh0 G) rfl rfl ?_
  refine x_aload_n (i := 2) (pc' := 5) rfl rfl rfl rfl ?_
  refine m_getf (i := 3) (pc' := 8) rfl rfl flX11_10 (sh0 G) rfl rfl ?_
  refine m_callV (i := 4) (pc' := 11) (av := [_]) (rest := []) rfl rfl (by decide) lX11_76 (sh8 G) rfl rfl rfl rfl rfl (Nat.le_of_ble_eq_true rfl) (Nat.le_refl _) (Nat.le_refl _) (s_X5_stage (by omega) ?_)
  dsimp only [psh]
  refine x_aload_n (i := 5) (pc' := 12) rfl rfl rfl rfl ?_
  refine m_callV (i := 6) (pc' := 15) (av := []) (rest := []) rfl rfl (by decide) lX11_220 (sh0 G) rfl rfl rfl rfl rfl (Nat.le_of_ble_eq_true rfl) (Nat.le_refl _) (Nat.le_refl _) (s_X11_findBestArrangement hM hs htr ?_)
  dsimp only [psh]
  generalize fbm (stg m) = x at hb hQ e64 e65 e7 e8 e75 ⊢
  refine x_aload_n (i := 7) (pc' := 16) rfl rfl rfl rfl ?_
  refine m_getf (i := 8) (pc' := 19) rfl rfl flX11_47 (sh0 G) rfl rfl ?_
  refine x_aload_n (i := 9) (pc' := 20) rfl rfl rfl rfl ?_
  refine m_getf (i := 10) (pc' := 23) rfl rfl flX11_10 (sh0 G) rfl rfl ?_
  refine m_callV (i := 11) (pc' := 26) (av := [_]) (rest := []) rfl rfl (by decide) lX11_230 (sh64 G) rfl rfl rfl rfl rfl (Nat.le_of_ble_eq_true rfl) (Nat.le_refl _) (Nat.le_refl _) (s_X6_lengthIn (by rw [e64]; omega) (by rw [e64, e65]; exact f4) (by unfold POS at hpo; rw [e7]; exact hpo) ?_)
  dsimp only [psh]
  refine x_istore_n (L' := [some _, some _]) (i := 12) (pc' := 27) rfl rfl rfl rfl (by decide) rfl ?_
  refine x_aload_n (i := 13) (pc' := 28) rfl rfl rfl rfl ?_
  refine m_getf (i := 14) (pc' := 31) rfl rfl flX11_54 (sh0 G) rfl rfl ?_
  refine m_getf (i := 15) (pc' := 34) rfl rfl flX11_227 (sh66 G) rfl rfl ?_
  refine x_iconst (i := 16) (pc' := 35) rfl rfl ?_
  refine x_aload_n (i := 17) (pc' := 36) rfl rfl rfl rfl ?_
  refine m_getf (i := 18) (pc' := 39) rfl rfl flX11_10 (sh0 G) rfl rfl ?_
  refine m_getf (i := 19) (pc' := 42) rfl rfl flX11_234 (sh1 G) rfl rfl ?_
  refine x_iconst (i := 20) (pc' := 43) rfl rfl ?_
  refine x_bipush (i := 21) (pc' := 45) rfl rfl (by decide) ?_
  refine m_copy (i := 22) (pc' := 48) rfl rfl (by decide) acX11_237 (sh69 G) (sh7 G) (by decide) (by decide) (by first | omega | decide) (by first | omega | decide) (by first | omega | decide) (by first | omega | decide) (by first | omega | decide) (Nat.le_of_ble_eq_true rfl) ac_n ac_s ac_i ?_
  show AW G 11 0 0 mX11_settles XT (mF G 0 0 (Qm G Q)) 0 0 48 _ _ (wd G (stx x))
  refine x_aload_n (i := 23) (pc' := 49) rfl rfl rfl rfl ?_
  refine x_iload_n (i := 24) (pc' := 50) rfl rfl rfl rfl ?_
  refine x_aload_n (i := 25) (pc' := 51) rfl rfl rfl rfl ?_
  refine m_getf (i := 26) (pc' := 54) rfl rfl flX11_54 (sh0 G) rfl rfl ?_
  refine m_getf (i := 27) (pc' := 57) rfl rfl flX11_223 (sh66 G) rfl rfl ?_
  rw [stx_ne x (by decide)]
  refine x_isub (i := 28) (pc' := 58) rfl rfl ?_
  refine m_callV (i := 29) (pc' := 61) (av := [_]) (rest := []) rfl rfl (by decide) lX11_90 (sh0 G) rfl rfl rfl rfl rfl (Nat.le_of_ble_eq_true rfl) (Nat.le_refl _) (Nat.le_refl _) (s_X11_undoable (m := stx x) (px_of ((stx_ne x (by decide)).trans e8) hx) (er_of ((stx_ne x (by decide)).trans e75) her) (by omega) ?_)
  dsimp only [psh]
  exact m_ireturn (i := 30) rfl rfl (by unfold udm; rw [if_pos (by omega)]; exact hQ)
def mxd (h v : Int) : Int := 31 * h + v
theorem s_X11_mixed {G : GG} {m : Mem} {Q : Option Value → Mem → Prop} {h v : Int} (hv : rg v) (hQ : Q (some (.long (JL (mxd h v)))) m) : CM G 0 mX11_mixed [.long (JL (h)), .int (J (v))] m Q := by
  refine CM.of dkX11_mixed (Or.inl rfl) [some _, none, some _] rfl (Nat.le_of_ble_eq_true rfl) ?_
  refine x_ldc2 (i := 0) (pc' := 3) rfl rfl kX11_354 ?_
  refine x_lload_n (i := 1) (pc' := 4) rfl rfl rfl rfl ?_
  refine x_lmul (i := 2) (pc' := 5) rfl rfl ?_
  refine x_iload_n (i := 3) (pc' := 6) rfl rfl rfl rfl ?_
  refine x_i2l (i := 4) (pc' := 7) rfl rfl (by assumption) ?_
  refine x_ladd (i := 5) (pc' := 8) rfl rfl ?_
  exact m_lreturn (i := 6) rfl rfl (hQ)
def sgp (m : Mem) (k w : Int) : Int := if w = 5 then co m k else m 3 (k * 5 + w)
def wsg (m : Mem) (k h : Int) : Int := it (fun w x => mxd x (sgp m k w)) 0 6 h
def wsgs (m : Mem) (h : Int) : Int := it (fun k x => wsg m k x) 0 (m 2 2).toNat h
def wwg (m : Mem) (i h : Int) : Int := it (fun w x => mxd x (wpr m i w)) 0 7 h
def wwgs (m : Mem) (h : Int) : Int := it (fun i x => wwg m i x) 0 (m 5 1).toNat h
theorem sgp_rg {m : Mem} (hM : MR m) (hs : SN m) (k w : Int) : rg (sgp m k w) := by
  unfold sgp
  split
  · have h1 := co_nn m k; have h2 := hs.2; omega
  · exact hM _ _
theorem wpr_rg {m : Mem} (hM : MR m) (i w : Int) : rg (wpr m i w) := by
  unfold wpr
  (repeat' split) <;> first | exact hM _ _ | decide
theorem s_X11_withSigns {G : GG} {m : Mem} {Q : Option Value → Mem → Prop} {s : Int} (hM : MR m) (hn : CN m) (hs : SN m) (hQ : Q (some (.long (JL (wsgs m s)))) m) : CM G 4 mX11_withSigns [.ref (G.2.2.2 0), .long (JL (s))] m Q := by
  refine CM.of dkX11_withSigns (Or.inl rfl) [some _, some _, none, none, none, none, none] rfl (Nat.le_of_ble_eq_true rfl) ?_
  have hn0 := hn.1; have hn1 := hn.2
  refine x_lload_n (i := 0) (pc' := 1) rfl rfl rfl rfl ?_
  refine x_lstore_n (L' := [some _, some _, none, some _, none, none, none]) (i := 1) (pc' := 2) rfl rfl rfl rfl (by decide) rfl ?_
  refine x_iconst (i := 2) (pc' := 3) rfl rfl ?_
  refine x_istore (L' := [some _, some _, none, some _, none, some _, none]) (i := 3) (pc' := 5) rfl rfl rfl (by decide) rfl ?_
  skip
  refine up_ind0 (P := fun (j : Int) (x : Int) => BW G 4 mX11_withSigns Q 5 [some (.ref (G.2.2.2 0)), some (.long (JL (s))), none, some (.long (JL (x))), none, some (.int (J (j))), none] [] m) (fun (j : Int) (x : Int) => wsg m j x) (m 2 2) (0) (s) (by omega) (fun j x hj0 hj hk => ?_) ?_
  · skip
    refine x_iload (i := 4) (pc' := 7) rfl rfl rfl ?_
    refine x_aload_n (i := 5) (pc' := 8) rfl rfl rfl rfl ?_
    refine m_getf (i := 6) (pc' := 11) rfl rfl flX11_10 (sh0 G) rfl rfl ?_
    refine m_getf (i := 7) (pc' := 14) rfl rfl flX11_80 (sh1 G) rfl rfl ?_
    refine m_getf (i := 8) (pc' := 17) rfl rfl flX11_349 (sh2 G) rfl rfl ?_
    refine x_icmpge (i := 9) (pc' := 20) (tgt := 57) rfl rfl (by decide) ⟨by omega, by omega⟩ ⟨by omega, by omega⟩ (fun c1 => by exfalso; omega) (fun c1 => ?_)
    refine x_iconst (i := 10) (pc' := 21) rfl rfl ?_
    refine x_istore (L' := [some _, some _, none, some _, none, some _, some _]) (i := 11) (pc' := 23) rfl rfl rfl (by decide) rfl ?_
    refine up_ind0 (P := fun (w : Int) (y : Int) => BW G 4 mX11_withSigns Q 23 [some (.ref (G.2.2.2 0)), some (.long (JL (s))), none, some (.long (JL (y))), none, some (.int (J (j))), some (.int (J (w)))] [] m) (fun (w : Int) (y : Int) => mxd y (sgp m j w)) (6) (0) (x) (by omega) (fun w y hj02 hj2 hk2 => ?_) ?_
    · skip
      refine x_iload (i := 12) (pc' := 25) rfl rfl rfl ?_
      refine x_iconst (i := 13) (pc' := 26) rfl rfl ?_
      refine x_icmpgt (i := 14) (pc' := 29) (tgt := 51) rfl rfl (by decide) ⟨by omega, by omega⟩ ⟨by omega, by omega⟩ (fun e1 => by exfalso; omega) (fun e1 => ?_)
      refine x_lload_n (i := 15) (pc' := 30) rfl rfl rfl rfl ?_
      refine x_aload_n (i := 16) (pc' := 31) rfl rfl rfl rfl ?_
      refine m_getf (i := 17) (pc' := 34) rfl rfl flX11_10 (sh0 G) rfl rfl ?_
      refine x_iload (i := 18) (pc' := 36) rfl rfl rfl ?_
      refine x_iload (i := 19) (pc' := 38) rfl rfl rfl ?_
      refine m_callV (i := 20) (pc' := 41) (av := [_, _]) (rest := [_]) rfl rfl (by decide) lX11_119 (sh1 G) rfl rfl rfl rfl rfl (Nat.le_of_ble_eq_true rfl) (Nat.le_refl _) (Nat.le_refl _) (s_X9_signProperty hM hs (by omega) (by omega) ?_)
      dsimp only [psh]
      refine m_callS (i := 21) (pc' := 44) (av := [_, _]) (rest := []) rfl rfl (by decide) lX11_269 rfl rfl (Nat.le_of_ble_eq_true rfl) (Nat.le_refl _) (Nat.le_refl _) (s_X11_mixed (sgp_rg hM hs j w) ?_)
      dsimp only [psh]
      refine x_lstore_n (L' := [some _, some _, none, some _, none, some _, some _]) (i := 22) (pc' := 45) rfl rfl rfl rfl (by decide) rfl ?_
      refine x_iinc (L' := [some _, some _, none, some _, none, some _, some _]) (i := 23) (pc' := 48) rfl rfl rfl rfl (by decide) rfl ?_
      refine x_goto (i := 24) (pc' := 23) rfl (by decide) ?_
      (first | exact hk2 | (refine AW.le ?_ hk2; simp [lvle]; done) | ((repeat' split at hk2) <;> first | exact hk2 | (refine AW.le ?_ hk2; simp [lvle]; done) | (exfalso; omega)))
    · skip
      refine x_iload (i := 12) (pc' := 25) rfl rfl rfl ?_
      refine x_iconst (i := 13) (pc' := 26) rfl rfl ?_
      refine x_icmpgt (i := 14) (pc' := 29) (tgt := 51) rfl rfl (by decide) ⟨by omega, by omega⟩ ⟨by omega, by omega⟩ (fun f1 => ?_) (fun f1 => by exfalso; omega)
      refine x_iinc (L' := [some _, some _, none, some _, none, some _, some _]) (i := 25) (pc' := 54) rfl rfl rfl rfl (by decide) rfl ?_
      refine x_goto (i := 26) (pc' := 5) rfl (by decide) ?_
      (unfold wsg at hk; first | exact hk | (refine AW.le ?_ hk; simp [lvle]; done) | ((repeat' split at hk) <;> first | exact hk | (refine AW.le ?_ hk; simp [lvle]; done) | (exfalso; omega)))
  · skip
    refine x_iload (i := 4) (pc' := 7) rfl rfl rfl ?_
    refine x_aload_n (i := 5) (pc' := 8) rfl rfl rfl rfl ?_
    refine m_getf (i := 6) (pc' := 11) rfl rfl flX11_10 (sh0 G) rfl rfl ?_
    refine m_getf (i := 7) (pc' := 14) rfl rfl flX11_80 (sh1 G) rfl rfl ?_
    refine m_getf (i := 8) (pc' := 17) rfl rfl flX11_349 (sh2 G) rfl rfl ?_
    refine x_icmpge (i := 9) (pc' := 20) (tgt := 57) rfl rfl (by decide) ⟨by omega, by omega⟩ ⟨by omega, by omega⟩ (fun c1 => ?_) (fun c1 => by exfalso; omega)
    refine x_lload_n (i := 27) (pc' := 58) rfl rfl rfl rfl ?_
    exact m_lreturn (i := 28) rfl rfl (by rw [Int.sub_zero]; exact hQ)
theorem s_X11_withWords {G : GG} {m : Mem} {Q : Option Value → Mem → Prop} {s : Int} (hM : MR m) (hs : SN m) (hQ : Q (some (.long (JL (wwgs m s)))) m) : CM G 3 mX11_withWords [.ref (G.2.2.2 0), .long (JL (s))] m Q := by
  refine CM.of dkX11_withWords (Or.inl rfl) [some _, some _, none, none, none, none, none] rfl (Nat.le_of_ble_eq_true rfl) ?_
  have hs0 := hs.1; have hs1 := hs.2
  refine x_lload_n (i := 0) (pc' := 1) rfl rfl rfl rfl ?_
  refine x_lstore_n (L' := [some _, some _, none, some _, none, none, none]) (i := 1) (pc' := 2) rfl rfl rfl rfl (by decide) rfl ?_
  refine x_iconst (i := 2) (pc' := 3) rfl rfl ?_
  refine x_istore (L' := [some _, some _, none, some _, none, some _, none]) (i := 3) (pc' := 5) rfl rfl rfl (by decide) rfl ?_
  skip
  refine up_ind0 (P := fun (j : Int) (x : Int) => BW G 3 mX11_withWords Q 5 [some (.ref (G.2.2.2 0)), some (.long (JL (s))), none, some (.long (JL (x))), none, some (.int (J (j))), none] [] m) (fun (j : Int) (x : Int) => wwg m j x) (m 5 1) (0) (s) (by omega) (fun j x hj0 hj hk => ?_) ?_
  · skip
    refine x_iload (i := 4) (pc' := 7) rfl rfl rfl ?_
    refine x_aload_n (i := 5) (pc' := 8) rfl rfl rfl rfl ?_
    refine m_getf (i := 6) (pc' := 11) rfl rfl flX11_10 (sh0 G) rfl rfl ?_
    refine m_getf (i := 7) (pc' := 14) rfl rfl flX11_179 (sh1 G) rfl rfl ?_
    refine m_getf (i := 8) (pc' := 17) rfl rfl flX11_328 (sh5 G) rfl rfl ?_
    refine x_icmpge (i := 9) (pc' := 20) (tgt := 55) rfl rfl (by decide) ⟨by omega, by omega⟩ ⟨by omega, by omega⟩ (fun c1 => by exfalso; omega) (fun c1 => ?_)
    refine x_iconst (i := 10) (pc' := 21) rfl rfl ?_
    refine x_istore (L' := [some _, some _, none, some _, none, some _, some _]) (i := 11) (pc' := 23) rfl rfl rfl (by decide) rfl ?_
    refine up_ind0 (P := fun (w : Int) (y : Int) => BW G 3 mX11_withWords Q 23 [some (.ref (G.2.2.2 0)), some (.long (JL (s))), none, some (.long (JL (y))), none, some (.int (J (j))), some (.int (J (w)))] [] m) (fun (w : Int) (y : Int) => mxd y (wpr m j w)) (7) (0) (x) (by omega) (fun w y hj02 hj2 hk2 => ?_) ?_
    · skip
      refine x_iload (i := 12) (pc' := 25) rfl rfl rfl ?_
      refine x_bipush (i := 13) (pc' := 27) rfl rfl (by decide) ?_
      refine x_icmpgt (i := 14) (pc' := 30) (tgt := 49) rfl rfl (by decide) ⟨by omega, by omega⟩ ⟨by omega, by omega⟩ (fun e1 => by exfalso; omega) (fun e1 => ?_)
      refine x_lload_n (i := 15) (pc' := 31) rfl rfl rfl rfl ?_
      refine x_aload_n (i := 16) (pc' := 32) rfl rfl rfl rfl ?_
      refine x_iload (i := 17) (pc' := 34) rfl rfl rfl ?_
      refine x_iload (i := 18) (pc' := 36) rfl rfl rfl ?_
      refine m_callV (i := 19) (pc' := 39) (av := [_, _]) (rest := [_]) rfl rfl (by decide) lX11_199 (sh0 G) rfl rfl rfl rfl rfl (Nat.le_of_ble_eq_true rfl) (Nat.le_refl _) (Nat.le_refl _) (s_X11_wordProperty hM hs (by omega) (by omega) ?_)
      dsimp only [psh]
      refine m_callS (i := 20) (pc' := 42) (av := [_, _]) (rest := []) rfl rfl (by decide) lX11_269 rfl rfl (Nat.le_of_ble_eq_true rfl) (Nat.le_refl _) (Nat.le_refl _) (s_X11_mixed (wpr_rg hM j w) ?_)
      dsimp only [psh]
      refine x_lstore_n (L' := [some _, some _, none, some _, none, some _, some _]) (i := 21) (pc' := 43) rfl rfl rfl rfl (by decide) rfl ?_
      refine x_iinc (L' := [some _, some _, none, some _, none, some _, some _]) (i := 22) (pc' := 46) rfl rfl rfl rfl (by decide) rfl ?_
      refine x_goto (i := 23) (pc' := 23) rfl (by decide) ?_
      (first | exact hk2 | (refine AW.le ?_ hk2; simp [lvle]; done) | ((repeat' split at hk2) <;> first | exact hk2 | (refine AW.le ?_ hk2; simp [lvle]; done) | (exfalso; omega)))
    · skip
      refine x_iload (i := 12) (pc' := 25) rfl rfl rfl ?_
      refine x_bipush (i := 13) (pc' := 27) rfl rfl (by decide) ?_
      refine x_icmpgt (i := 14) (pc' := 30) (tgt := 49) rfl rfl (by decide) ⟨by omega, by omega⟩ ⟨by omega, by omega⟩ (fun f1 => ?_) (fun f1 => by exfalso; omega)
      refine x_iinc (L' := [some _, some _, none, some _, none, some _, some _]) (i := 24) (pc' := 52) rfl rfl rfl rfl (by decide) rfl ?_
      refine x_goto (i := 25) (pc' := 5) rfl (by decide) ?_
      (unfold wwg at hk; first | exact hk | (refine AW.le ?_ hk; simp [lvle]; done) | ((repeat' split at hk) <;> first | exact hk | (refine AW.le ?_ hk; simp [lvle]; done) | (exfalso; omega)))
  · skip
    refine x_iload (i := 4) (pc' := 7) rfl rfl rfl ?_
    refine x_aload_n (i := 5) (pc' := 8) rfl rfl rfl rfl ?_
    refine m_getf (i := 6) (pc' := 11) rfl rfl flX11_10 (sh0 G) rfl rfl ?_
    refine m_getf (i := 7) (pc' := 14) rfl rfl flX11_179 (sh1 G) rfl rfl ?_
    refine m_getf (i := 8) (pc' := 17) rfl rfl flX11_328 (sh5 G) rfl rfl ?_
    refine x_icmpge (i := 9) (pc' := 20) (tgt := 55) rfl rfl (by decide) ⟨by omega, by omega⟩ ⟨by omega, by omega⟩ (fun c1 => ?_) (fun c1 => by exfalso; omega)
    refine x_lload_n (i := 26) (pc' := 56) rfl rfl rfl rfl ?_
    exact m_lreturn (i := 27) rfl rfl (by rw [Int.sub_zero]; exact hQ)
