def ctm (m : Mem) (r : Int) : Mem := if 0 ≤ -2 - r ∧ -2 - r ≤ 2 then stm m 75 (-2 - r) (m 75 (-2 - r) + 1) else m
def udm (m : Mem) (r : Int) : Mem := if 0 ≤ r then ks m else ctm m r
def ER (m : Mem) : Prop := ∀ i, 0 ≤ i → i ≤ 2 → 0 ≤ m 75 i ∧ m 75 i ≤ 100000
def SRT (m : Mem) : Prop := ∀ k, 0 ≤ k → k < m 2 2 → 0 ≤ m 3 (k * 5 + 4) ∧ m 3 (k * 5 + 4) ≤ 3
def WDF (m : Mem) : Prop := ∀ i, 0 ≤ i → i < m 5 1 → (0 ≤ m 6 (i * 3 + 0) ∧ m 6 (i * 3 + 0) < m 2 2) ∧ (-1 ≤ m 6 (i * 3 + 1) ∧ m 6 (i * 3 + 1) ≤ 5) ∧ (-1 ≤ m 6 (i * 3 + 2) ∧ m 6 (i * 3 + 2) ≤ 5)
def POS (m : Mem) : Prop := ∀ s, 0 ≤ s → s ≤ 5 → 0 ≤ m 7 s ∧ m 7 s ≤ 5
def TRL (m : Mem) : Prop := ∀ s, 0 ≤ s → s ≤ 5 → 0 ≤ m 68 s ∧ m 68 s ≤ 5
def GI (m : Mem) : Prop := MR m ∧ (CN m ∧ SN m ∧ RVs m ∧ SRT m ∧ WT m ∧ WDF m ∧ POS m) ∧ PX m ∧ (0 ≤ m 52 1 ∧ m 52 1 ≤ 120) ∧ TRL m ∧ ER m
theorem WDF.wds {m : Mem} (h : WDF m) (hn : CN m) : WDS m := fun i a b => by have := (h i a b).1; have := hn.2; omega
theorem cps_ne (m : Mem) (d s : Nat) {p : Nat} (h : p < d + 1 ∨ d + 6 < p) : cps m d s p = m p := by
  unfold cps
  try dsimp only
  rw [sr_ne _ _ (by omega), stm_ne _ _ _ (by omega), sr_ne _ _ (by omega), stm_ne _ _ _ (by omega), sr_ne _ _ (by omega), sr_ne _ _ (by omega)]
theorem cps_MR {m : Mem} (h : MR m) (d s : Nat) : MR (cps m d s) := by
  have h1 := h.cp (q := d + 2) (a := s + 2) (b := d + 2) (sp := 0) (dp := 0) (n := 85)
  have h2 := h1.cp (q := d + 3) (a := s + 3) (b := d + 3) (sp := 0) (dp := 0) (n := 4)
  have h3 := h2.st (q := d + 1) (k := 2) (h2 (s + 1) 2)
  have h4 := h3.cp (q := d + 5) (a := s + 5) (b := d + 5) (sp := 0) (dp := 0) (n := 48)
  have h5 := h4.st (q := d + 4) (k := 1) (h4 (s + 4) 1)
  exact h5.cp
theorem stg_ne (m : Mem) {p : Nat} (hp : p ≤ 9 ∨ 52 ≤ p) (h : PX m) : stg m p = m p := cps_ne m _ _ (by have := h.1; omega)
theorem stg_GI {m : Mem} (h : GI m) : GI (stg m) := by
  obtain ⟨hM, ⟨hn, hs, hv, hst, hw, hwd, hpo⟩, hx, htx, htr, her⟩ := h
  have e : ∀ p : Nat, p ≤ 9 ∨ 52 ≤ p → stg m p = m p := fun p hp => stg_ne m hp hx
  unfold GI CN SN RVs RV SRT WT WDF POS PX TRL ER
  rw [e 2 (by decide), e 3 (by decide), e 4 (by decide), e 5 (by decide), e 6 (by decide), e 7 (by decide), e 8 (by decide), e 52 (by decide), e 68 (by decide), e 75 (by decide)]
  exact ⟨cps_MR hM _ _, ⟨hn, hs, hv, hst, hw, hwd, hpo⟩, hx, htx, htr, her⟩
theorem s_X11_counted {G : GG} {m : Mem} {Q : Option Value → Mem → Prop} {a : Int} (her : ER m) (ha : -5000 ≤ a ∧ a ≤ 100000) (hQ : Q (some (.int (J (a)))) (ctm m a)) : CM G 1 mX11_counted [.ref (G.2.2.2 0), .int (J (a))] m Q := by
  refine CM.of dkX11_counted (Or.inl rfl) [some _, some _, none] rfl (Nat.le_of_ble_eq_true rfl) ?_
  by_cases hk : 0 ≤ -2 - a ∧ -2 - a ≤ 2
  · have hee := her _ hk.1 hk.2
    have e0 : (if 0 ≤ -2 - a ∧ -2 - a ≤ 2 then 1 else 0 : Int) = 1 := if_pos hk
    have e1 : ctm m a = stm m 75 (-2 - a) (m 75 (-2 - a) + 1) := if_pos hk
    rw [e1] at hQ
    refine x_bipush (i := 0) (pc' := 2) rfl rfl (by decide) ?_
    refine x_iload_n (i := 1) (pc' := 3) rfl rfl rfl rfl ?_
    refine x_isub (i := 2) (pc' := 4) rfl rfl ?_
    refine x_istore_n (L' := [some _, some _, some _]) (i := 3) (pc' := 5) rfl rfl rfl rfl (by decide) rfl ?_
    refine x_iload_n (i := 4) (pc' := 6) rfl rfl rfl rfl ?_
    refine x_iconst (i := 5) (pc' := 7) rfl rfl ?_
    refine x_iconst (i := 6) (pc' := 8) rfl rfl ?_
    refine m_callS (i := 7) (pc' := 11) (av := [_, _, _]) (rest := []) rfl rfl (by decide) lX11_112 rfl rfl (Nat.le_of_ble_eq_true rfl) (Nat.le_refl _) (Nat.le_refl _) (s_X11_isWithin (by omega) (by omega) (by omega) ?_)
    dsimp only [psh]
    refine x_ifeq (i := 8) (pc' := 14) (tgt := 24) rfl rfl (by decide) ⟨by omega, by omega⟩ (fun c1 => by exfalso; omega) (fun c1 => ?_)
    refine x_aload_n (i := 9) (pc' := 15) rfl rfl rfl rfl ?_
    refine m_getf (i := 10) (pc' := 18) rfl rfl flX11_72 (sh0 G) rfl rfl ?_
    refine x_iload_n (i := 11) (pc' := 19) rfl rfl rfl rfl ?_
    refine x_dup2 (i := 12) (pc' := 20) rfl rfl rfl rfl ?_
    refine m_iald (i := 13) (pc' := 21) rfl rfl (sh75 G) (by decide) ⟨by omega, by omega⟩ ?_
    refine x_iconst (i := 14) (pc' := 22) rfl rfl ?_
    refine x_iadd (i := 15) (pc' := 23) rfl rfl ?_
    refine m_iast (i := 16) (pc' := 24) rfl rfl (sh75 G) (by decide) ⟨by omega, by omega⟩ ?_
    refine x_iload_n (i := 17) (pc' := 25) rfl rfl rfl rfl ?_
    exact m_ireturn (i := 18) rfl rfl (hQ)
  · have e0 : (if 0 ≤ -2 - a ∧ -2 - a ≤ 2 then 1 else 0 : Int) = 0 := if_neg hk
    have e1 : ctm m a = m := if_neg hk
    rw [e1] at hQ
    refine x_bipush (i := 0) (pc' := 2) rfl rfl (by decide) ?_
    refine x_iload_n (i := 1) (pc' := 3) rfl rfl rfl rfl ?_
    refine x_isub (i := 2) (pc' := 4) rfl rfl ?_
    refine x_istore_n (L' := [some _, some _, some _]) (i := 3) (pc' := 5) rfl rfl rfl rfl (by decide) rfl ?_
    refine x_iload_n (i := 4) (pc' := 6) rfl rfl rfl rfl ?_
    refine x_iconst (i := 5) (pc' := 7) rfl rfl ?_
    refine x_iconst (i := 6) (pc' := 8) rfl rfl ?_
    refine m_callS (i := 7) (pc' := 11) (av := [_, _, _]) (rest := []) rfl rfl (by decide) lX11_112 rfl rfl (Nat.le_of_ble_eq_true rfl) (Nat.le_refl _) (Nat.le_refl _) (s_X11_isWithin (by omega) (by omega) (by omega) ?_)
    dsimp only [psh]
    refine x_ifeq (i := 8) (pc' := 14) (tgt := 24) rfl rfl (by decide) ⟨by omega, by omega⟩ (fun c1 => ?_) (fun c1 => by exfalso; omega)
    refine x_iload_n (i := 17) (pc' := 25) rfl rfl rfl rfl ?_
    exact m_ireturn (i := 18) rfl rfl (hQ)
theorem ks_75 (m : Mem) : ks m 75 = m 75 := rfl
theorem ctm_pos {m : Mem} {r : Int} (h : 0 ≤ r) : ctm m r = m := if_neg (by omega)
theorem s_X11_undoable {G : GG} {m : Mem} {Q : Option Value → Mem → Prop} {a : Int} (hx : PX m) (her : ER m) (ha : -5000 ≤ a ∧ a ≤ 100000) (hQ : Q (some (.int (J (a)))) (udm m a)) : CM G 2 mX11_undoable [.ref (G.2.2.2 0), .int (J (a))] m Q := by
  refine CM.of dkX11_undoable (Or.inl rfl) [some _, some _] rfl (Nat.le_of_ble_eq_true rfl) ?_
  refine x_iload_n (i := 0) (pc' := 1) rfl rfl rfl rfl ?_
  refine x_iflt (i := 1) (pc' := 4) (tgt := 11) rfl rfl (by decide) ⟨by omega, by omega⟩ (fun c1 => ?_) (fun c1 => ?_)
  · skip
    refine x_aload_n (i := 5) (pc' := 12) rfl rfl rfl rfl ?_
    refine x_iload_n (i := 6) (pc' := 13) rfl rfl rfl rfl ?_
    refine m_callV (i := 7) (pc' := 16) (av := [_]) (rest := []) rfl rfl (by decide) lX11_116 (sh0 G) rfl rfl rfl rfl rfl (Nat.le_of_ble_eq_true rfl) (Nat.le_refl _) (Nat.le_refl _) (s_X11_counted (by first | exact her | (show ER (ks m); exact her)) (by omega) ?_)
    dsimp only [psh]
    exact m_ireturn (i := 8) rfl rfl (by unfold udm at hQ; (repeat' split at hQ) <;> first | exact hQ | (exfalso; omega) | (rw [ctm_pos (by omega)]; exact hQ))
  · skip
    refine x_aload_n (i := 2) (pc' := 5) rfl rfl rfl rfl ?_
    refine m_getf (i := 3) (pc' := 8) rfl rfl flX11_19 (sh0 G) rfl rfl ?_
    refine m_callV (i := 4) (pc' := 11) (av := []) (rest := []) rfl rfl (by decide) lX11_280 (sh8 G) rfl rfl rfl rfl rfl (Nat.le_of_ble_eq_true rfl) (Nat.le_refl _) (Nat.le_refl _) (s_X5_keepStaged hx ?_)
    dsimp only [psh]
    refine x_aload_n (i := 5) (pc' := 12) rfl rfl rfl rfl ?_
    refine x_iload_n (i := 6) (pc' := 13) rfl rfl rfl rfl ?_
    refine m_callV (i := 7) (pc' := 16) (av := [_]) (rest := []) rfl rfl (by decide) lX11_116 (sh0 G) rfl rfl rfl rfl rfl (Nat.le_of_ble_eq_true rfl) (Nat.le_refl _) (Nat.le_refl _) (s_X11_counted (by first | exact her | (show ER (ks m); exact her)) (by omega) ?_)
    dsimp only [psh]
    exact m_ireturn (i := 8) rfl rfl (by unfold udm at hQ; (repeat' split at hQ) <;> first | exact hQ | (exfalso; omega) | (rw [ctm_pos (by omega)]; exact hQ))
theorem adx_8 (m : Mem) (h p q f s : Int) : adx m h p q f s 8 = m 8 ∧ adx m h p q f s 75 = m 75 := by
  unfold adx apx apm askm
  (repeat' split) <;> exact ⟨rfl, rfl⟩
theorem px_of {m x : Mem} (h : x 8 = m 8) (hx : PX m) : PX x := by unfold PX; rw [h]; exact hx
theorem er_of {m x : Mem} (h : x 75 = m 75) (hx : ER m) : ER x := by unfold ER; rw [h]; exact hx
theorem adr_rg {m : Mem} (hn : CN m) (h p q f s : Int) : -4 ≤ adr m h p q f s ∧ adr m h p q f s ≤ 16 := by
  unfold adr
  split
  · have := apr_rg (m := stm (askm m h p q f) 3 84 s) hn; omega
  · omega
theorem chx_8 (m : Mem) (k w v : Int) : chx m k w v 8 = m 8 ∧ chx m k w v 75 = m 75 := by
  unfold chx
  (repeat' split) <;> exact ⟨rfl, rfl⟩
theorem chr_rg {m : Mem} (hn : CN m) (hv : RVs m) (hs : SRT m) (k w v : Int) : -4 ≤ chr m k w v ∧ chr m k w v ≤ 16 := by
  unfold chr
  by_cases hc : (0 ≤ k ∧ k < m 2 2) ∧ (0 ≤ w ∧ w ≤ 4) ∧ (0 ≤ v ∧ v ≤ (if w = 4 then 3 else 7))
  · rw [if_pos hc]
    split
    · by_cases h4 : w = 4
      · have := hs k hc.1.1 hc.1.2; rw [h4]; omega
      · have := hv k hc.1.1 hc.1.2 w hc.2.1.1 (by omega); omega
    · omega
  · rw [if_neg hc]; omega
theorem it_8 {f : Int → Mem → Mem} {q : Nat} (h : ∀ i x, f i x q = x q) : ∀ (n : Nat) (j : Int) (x : Mem), it f j n x q = x q
  | 0, _, _ => rfl
  | n + 1, j, x => by rw [it, it_8 h n]; exact h j x
theorem it_82 {f : Int → Int × Mem → Int × Mem} {q : Nat} (h : ∀ i x, (f i x).2 q = x.2 q) : ∀ (n : Nat) (j : Int) (x : Int × Mem), (it f j n x).2 q = x.2 q
  | 0, _, _ => rfl
  | n + 1, j, x => by rw [it, it_82 h n]; exact h j x
theorem apx_8 (m : Mem) {q : Nat} (h : q ≠ 2) (h3 : q ≠ 3) : apx m q = m q := by
  unfold apx apm
  split
  · rw [stm_ne _ _ _ h, sr_ne _ _ h3]
  · rfl
theorem adz_8 (m : Mem) (a b : Int) {q : Nat} (h : q ≠ 2) (h3 : q ≠ 3) : adz m a b q = m q := by
  unfold adz
  split
  · unfold rds
    rw [it_82]
    intro i x
    unfold rr
    show apx _ q = _
    rw [apx_8 _ h h3, it_82]
    intro w y
    unfold ri
    exact stm_ne _ _ _ h3
  · rfl
theorem rds_I {m : Mem} (hM : MR m) (hn : CN m) {a b : Int} (ha : 0 ≤ a ∧ a ≤ 999999) : RI (rds m a b) := it_I _ _ _ (fun i y _ _ hy => rr_I hy) ⟨by show 0 ≤ a ∧ a < 2147483648; omega, hM, hn⟩
theorem apx_mono {m : Mem} : m 2 2 ≤ apx m 2 2 := by
  unfold apx
  split
  · rw [apm_n]; omega
  · omega
theorem rds_mono (m : Mem) (a b : Int) : m 2 2 ≤ (rds m a b).2 2 2 := by
  have key : ∀ (n : Nat) (j : Int) (x : Int × Mem), x.2 2 2 ≤ (it (fun _ x => rr x) j n x).2 2 2 := by
    intro n
    induction n with
    | zero => intro j x; exact Int.le_refl _
    | succ n ih =>
      intro j x
      rw [it]
      refine Int.le_trans ?_ (ih _ _)
      have e : (it (fun w x => ri w x) 0 5 x).2 2 = x.2 2 := it_82 (f := fun w x => ri w x) (q := 2) (fun w y => rfl) 5 0 x
      have := apx_mono (m := (it (fun w x => ri w x) 0 5 x).2)
      rw [e] at this
      exact this
  exact key _ _ _
theorem adn_rg {m : Mem} (hM : MR m) (hn : CN m) (a b : Int) : -4 ≤ adn m a b ∧ adn m a b ≤ 16 := by
  unfold adn
  split
  · next hc =>
    have h1 := (rds_I hM hn (a := a) (b := b) hc.1).2.2
    have h2 := rds_mono m a b
    have h3 := h1.2; have h4 := hn.1
    omega
  · omega
theorem s_X11_sign {G : GG} {m : Mem} {Q : Option Value → Mem → Prop} {a b c d e : Int} (h : GI m) (h1 : rg a) (h2 : rg b) (h3 : rg c) (h4 : rg d) (h5 : rg e) (hQ : Q (some (.int (J (adr (stg m) a b c d e)))) (udm (adx (stg m) a b c d e) (adr (stg m) a b c d e))) : CM G 5 mX11_sign [.ref (G.2.2.2 0), .int (J (a)), .int (J (b)), .int (J (c)), .int (J (d)), .int (J (e))] m Q := by
  refine CM.of dkX11_sign (Or.inl rfl) [some _, some _, some _, some _, some _, some _] rfl (Nat.le_of_ble_eq_true rfl) ?_
  obtain ⟨hM, ⟨hn, hs, hv, hst, hw, hwd, hpo⟩, hx, htx, htr, her⟩ := stg_GI h
  have hx0 := h.2.2.1; have hx1 := hx0.1
  have hr := adr_rg hn a b c d e; have h8 := adx_8 (stg m) a b c d e
  refine x_aload_n (i := 0) (pc' := 1) rfl rfl rfl rfl ?_
  refine m_getf (i := 1) (pc' := 4) rfl rfl flX11_19 (sh0 G) rfl rfl ?_
  refine x_aload_n (i := 2) (pc' := 5) rfl rfl rfl rfl ?_
  refine m_getf (i := 3) (pc' := 8) rfl rfl flX11_10 (sh0 G) rfl rfl ?_
  refine m_callV (i := 4) (pc' := 11) (av := [_]) (rest := []) rfl rfl (by decide) lX11_76 (sh8 G) rfl rfl rfl rfl rfl (Nat.le_of_ble_eq_true rfl) (Nat.le_refl _) (Nat.le_refl _) (s_X5_stage (by omega) ?_)
  dsimp only [psh]
  refine x_aload_n (i := 5) (pc' := 12) rfl rfl rfl rfl ?_
  refine x_aload_n (i := 6) (pc' := 13) rfl rfl rfl rfl ?_
  refine m_getf (i := 7) (pc' := 16) rfl rfl flX11_10 (sh0 G) rfl rfl ?_
  refine m_getf (i := 8) (pc' := 19) rfl rfl flX11_80 (sh1 G) rfl rfl ?_
  refine x_iload_n (i := 9) (pc' := 20) rfl rfl rfl rfl ?_
  refine x_iload_n (i := 10) (pc' := 21) rfl rfl rfl rfl ?_
  refine x_iload_n (i := 11) (pc' := 22) rfl rfl rfl rfl ?_
  refine x_iload (i := 12) (pc' := 24) rfl rfl rfl ?_
  refine x_iload (i := 13) (pc' := 26) rfl rfl rfl ?_
  refine m_callV (i := 14) (pc' := 29) (av := [_, _, _, _, _]) (rest := [_]) rfl rfl (by decide) lX11_84 (sh2 G) rfl rfl rfl rfl rfl (Nat.le_of_ble_eq_true rfl) (Nat.le_refl _) (Nat.le_refl _) (s_X3_addSign hM hn h1 h2 h3 h4 h5 ?_)
  dsimp only [psh]
  refine m_callV (i := 15) (pc' := 32) (av := [_]) (rest := []) rfl rfl (by decide) lX11_90 (sh0 G) rfl rfl rfl rfl rfl (Nat.le_of_ble_eq_true rfl) (Nat.le_refl _) (Nat.le_refl _) (s_X11_undoable (px_of h8.1 hx) (er_of h8.2 her) (by omega) ?_)
  dsimp only [psh]
  exact m_ireturn (i := 16) rfl rfl (hQ)
theorem s_X11_becomes {G : GG} {m : Mem} {Q : Option Value → Mem → Prop} {a b c : Int} (h : GI m) (h1 : rg a) (h2 : rg b) (h3 : rg c) (hQ : Q (some (.int (J (chr (stg m) a b c)))) (udm (chx (stg m) a b c) (chr (stg m) a b c))) : CM G 4 mX11_becomes [.ref (G.2.2.2 0), .int (J (a)), .int (J (b)), .int (J (c))] m Q := by
  refine CM.of dkX11_becomes (Or.inl rfl) [some _, some _, some _, some _] rfl (Nat.le_of_ble_eq_true rfl) ?_
  obtain ⟨hM, ⟨hn, hs, hv, hst, hw, hwd, hpo⟩, hx, htx, htr, her⟩ := stg_GI h
  have hx0 := h.2.2.1; have hx1 := hx0.1
  have hr := chr_rg hn hv hst a b c; have h8 := chx_8 (stg m) a b c
  refine x_aload_n (i := 0) (pc' := 1) rfl rfl rfl rfl ?_
  refine m_getf (i := 1) (pc' := 4) rfl rfl flX11_19 (sh0 G) rfl rfl ?_
  refine x_aload_n (i := 2) (pc' := 5) rfl rfl rfl rfl ?_
  refine m_getf (i := 3) (pc' := 8) rfl rfl flX11_10 (sh0 G) rfl rfl ?_
  refine m_callV (i := 4) (pc' := 11) (av := [_]) (rest := []) rfl rfl (by decide) lX11_76 (sh8 G) rfl rfl rfl rfl rfl (Nat.le_of_ble_eq_true rfl) (Nat.le_refl _) (Nat.le_refl _) (s_X5_stage (by omega) ?_)
  dsimp only [psh]
  refine x_aload_n (i := 5) (pc' := 12) rfl rfl rfl rfl ?_
  refine x_aload_n (i := 6) (pc' := 13) rfl rfl rfl rfl ?_
  refine m_getf (i := 7) (pc' := 16) rfl rfl flX11_10 (sh0 G) rfl rfl ?_
  refine m_getf (i := 8) (pc' := 19) rfl rfl flX11_80 (sh1 G) rfl rfl ?_
  refine x_iload_n (i := 9) (pc' := 20) rfl rfl rfl rfl ?_
  refine x_iload_n (i := 10) (pc' := 21) rfl rfl rfl rfl ?_
  refine x_iload_n (i := 11) (pc' := 22) rfl rfl rfl rfl ?_
  refine m_callV (i := 12) (pc' := 25) (av := [_, _, _]) (rest := [_]) rfl rfl (by decide) lX11_94 (sh2 G) rfl rfl rfl rfl rfl (Nat.le_of_ble_eq_true rfl) (Nat.le_refl _) (Nat.le_refl _) (s_X3_change hM hn h1 h2 h3 ?_)
  dsimp only [psh]
  refine m_callV (i := 13) (pc' := 28) (av := [_]) (rest := []) rfl rfl (by decide) lX11_90 (sh0 G) rfl rfl rfl rfl rfl (Nat.le_of_ble_eq_true rfl) (Nat.le_refl _) (Nat.le_refl _) (s_X11_undoable (px_of h8.1 hx) (er_of h8.2 her) (by omega) ?_)
  dsimp only [psh]
  exact m_ireturn (i := 14) rfl rfl (hQ)
def dpr (m : Mem) (a : Int) : Int := if 0 ≤ a ∧ a < m 2 2 then (if 0 < co m a then -3 else m 2 2 - 1) else -2
def dpx (m : Mem) (a : Int) : Mem := if (0 ≤ a ∧ a < m 2 2) ∧ co m a ≤ 0 then rmm (rnm m a) a else m
theorem rnm_ne (m : Mem) (k : Int) {q : Nat} (h : q ≠ 6) : rnm m k q = m q := it_8 (fun i x => by split <;> first | exact stm_ne _ _ _ h | rfl) _ _ _
theorem dpx_ne (m : Mem) (a : Int) {q : Nat} (h : q ≠ 6) (h2 : q ≠ 2) (h3 : q ≠ 3) : dpx m a q = m q := by
  unfold dpx rmm
  split
  · rw [stm_ne _ _ _ h2, sr_ne _ _ h3, rnm_ne _ _ h]
  · rfl
def wtr (m : Mem) (a b : Int) : Int := if (0 ≤ a ∧ a ≤ 3) ∧ (0 ≤ b ∧ b ≤ 5) then m 4 a else -2
def wtx (m : Mem) (a b : Int) : Mem := if (0 ≤ a ∧ a ≤ 3) ∧ (0 ≤ b ∧ b ≤ 5) then stm m 4 a b else m
theorem wtx_ne (m : Mem) (a b : Int) {q : Nat} (h : q ≠ 4) : wtx m a b q = m q := by
  unfold wtx
  split
  · exact stm_ne _ _ _ h
  · rfl
theorem wtr_rg {m : Mem} (h : WT m) (a b : Int) : -4 ≤ wtr m a b ∧ wtr m a b ≤ 16 := by
  unfold wtr
  split
  · next hc => have := h a hc.1.1 hc.1.2; omega
  · omega
theorem s_X11_drops {G : GG} {m : Mem} {Q : Option Value → Mem → Prop} {a : Int} (h : GI m) (h1 : rg a) (hQ : Q (some (.int (J (dpr (stg m) a)))) (udm (dpx (stg m) a) (dpr (stg m) a))) : CM G 4 mX11_drops [.ref (G.2.2.2 0), .int (J (a))] m Q := by
  refine CM.of dkX11_drops (Or.inl rfl) [some _, some _] rfl (Nat.le_of_ble_eq_true rfl) ?_
  obtain ⟨hM, ⟨hn, hs, hv, hst, hw, hwd, hpo⟩, hx, htx, htr, her⟩ := stg_GI h
  have hx0 := h.2.2.1; have hx1 := hx0.1
  have hn0 := hn.1; have hn1 := hn.2
  have hr : -4 ≤ dpr (stg m) a ∧ dpr (stg m) a ≤ 16 := (by unfold dpr; (repeat' split) <;> omega)
  have hlo : ∀ i, 0 ≤ i → i < stg m 5 1 → 0 ≤ stg m 6 (i * 3) := fun i a b => by (have := (hwd i a b).1.1; rw [Int.add_zero] at this; exact this)
  refine x_aload_n (i := 0) (pc' := 1) rfl rfl rfl rfl ?_
  refine m_getf (i := 1) (pc' := 4) rfl rfl flX11_19 (sh0 G) rfl rfl ?_
  refine x_aload_n (i := 2) (pc' := 5) rfl rfl rfl rfl ?_
  refine m_getf (i := 3) (pc' := 8) rfl rfl flX11_10 (sh0 G) rfl rfl ?_
  refine m_callV (i := 4) (pc' := 11) (av := [_]) (rest := []) rfl rfl (by decide) lX11_76 (sh8 G) rfl rfl rfl rfl rfl (Nat.le_of_ble_eq_true rfl) (Nat.le_refl _) (Nat.le_refl _) (s_X5_stage (by omega) ?_)
  dsimp only [psh]
  refine x_aload_n (i := 5) (pc' := 12) rfl rfl rfl rfl ?_
  refine x_aload_n (i := 6) (pc' := 13) rfl rfl rfl rfl ?_
  refine m_getf (i := 7) (pc' := 16) rfl rfl flX11_10 (sh0 G) rfl rfl ?_
  refine x_iload_n (i := 8) (pc' := 17) rfl rfl rfl rfl ?_
  refine m_callV (i := 9) (pc' := 20) (av := [_]) (rest := [_]) rfl rfl (by decide) lX11_98 (sh1 G) rfl rfl rfl rfl rfl (Nat.le_of_ble_eq_true rfl) (Nat.le_refl _) (Nat.le_refl _) (s_X9_removeSign hM hn hs hlo h1 ?_)
  dsimp only [psh]
  refine m_callV (i := 10) (pc' := 23) (av := [_]) (rest := []) rfl rfl (by decide) lX11_90 (sh0 G) rfl rfl rfl rfl rfl (Nat.le_of_ble_eq_true rfl) (Nat.le_refl _) (Nat.le_refl _) (s_X11_undoable (px_of (dpx_ne (stg m) a (by decide) (by decide) (by decide)) hx) (er_of (dpx_ne (stg m) a (by decide) (by decide) (by decide)) her) (show -5000 ≤ dpr (stg m) a ∧ dpr (stg m) a ≤ 100000 by omega) ?_)
  dsimp only [psh]
  exact m_ireturn (i := 11) rfl rfl (hQ)
theorem s_X11_weight {G : GG} {m : Mem} {Q : Option Value → Mem → Prop} {a b : Int} (h : GI m) (h1 : rg a) (h2 : rg b) (hQ : Q (some (.int (J (wtr (stg m) a b)))) (udm (wtx (stg m) a b) (wtr (stg m) a b))) : CM G 4 mX11_weight [.ref (G.2.2.2 0), .int (J (a)), .int (J (b))] m Q := by
  refine CM.of dkX11_weight (Or.inl rfl) [some _, some _, some _] rfl (Nat.le_of_ble_eq_true rfl) ?_
  obtain ⟨hM, ⟨hn, hs, hv, hst, hw, hwd, hpo⟩, hx, htx, htr, her⟩ := stg_GI h
  have hx0 := h.2.2.1; have hx1 := hx0.1
  have hr := wtr_rg hw a b
  refine x_aload_n (i := 0) (pc' := 1) rfl rfl rfl rfl ?_
  refine m_getf (i := 1) (pc' := 4) rfl rfl flX11_19 (sh0 G) rfl rfl ?_
  refine x_aload_n (i := 2) (pc' := 5) rfl rfl rfl rfl ?_
  refine m_getf (i := 3) (pc' := 8) rfl rfl flX11_10 (sh0 G) rfl rfl ?_
  refine m_callV (i := 4) (pc' := 11) (av := [_]) (rest := []) rfl rfl (by decide) lX11_76 (sh8 G) rfl rfl rfl rfl rfl (Nat.le_of_ble_eq_true rfl) (Nat.le_refl _) (Nat.le_refl _) (s_X5_stage (by omega) ?_)
  dsimp only [psh]
  refine x_aload_n (i := 5) (pc' := 12) rfl rfl rfl rfl ?_
  refine x_aload_n (i := 6) (pc' := 13) rfl rfl rfl rfl ?_
  refine m_getf (i := 7) (pc' := 16) rfl rfl flX11_10 (sh0 G) rfl rfl ?_
  refine m_getf (i := 8) (pc' := 19) rfl rfl flX11_80 (sh1 G) rfl rfl ?_
  refine x_iload_n (i := 9) (pc' := 20) rfl rfl rfl rfl ?_
  refine x_iload_n (i := 10) (pc' := 21) rfl rfl rfl rfl ?_
  refine m_callV (i := 11) (pc' := 24) (av := [_, _]) (rest := [_]) rfl rfl (by decide) lX11_101 (sh2 G) rfl rfl rfl rfl rfl (Nat.le_of_ble_eq_true rfl) (Nat.le_refl _) (Nat.le_refl _) (s_X3_setWeight h1 h2 ?_)
  dsimp only [psh]
  refine m_callV (i := 12) (pc' := 27) (av := [_]) (rest := []) rfl rfl (by decide) lX11_90 (sh0 G) rfl rfl rfl rfl rfl (Nat.le_of_ble_eq_true rfl) (Nat.le_refl _) (Nat.le_refl _) (s_X11_undoable (px_of (wtx_ne (stg m) a b (by decide)) hx) (er_of (wtx_ne (stg m) a b (by decide)) her) (show -5000 ≤ wtr (stg m) a b ∧ wtr (stg m) a b ≤ 100000 by omega) ?_)
  dsimp only [psh]
  exact m_ireturn (i := 13) rfl rfl (hQ)
theorem s_X11_draws {G : GG} {m : Mem} {Q : Option Value → Mem → Prop} {a b : Int} (h : GI m) (h1 : rg a) (h2 : rg b) (hQ : Q (some (.int (J (adn (stg m) a b)))) (udm (adz (stg m) a b) (adn (stg m) a b))) : CM G 5 mX11_draws [.ref (G.2.2.2 0), .int (J (a)), .int (J (b))] m Q := by
  refine CM.of dkX11_draws (Or.inl rfl) [some _, some _, some _] rfl (Nat.le_of_ble_eq_true rfl) ?_
  obtain ⟨hM, ⟨hn, hs, hv, hst, hw, hwd, hpo⟩, hx, htx, htr, her⟩ := stg_GI h
  have hx0 := h.2.2.1; have hx1 := hx0.1
  have hr := adn_rg hM hn a b
  refine x_aload_n (i := 0) (pc' := 1) rfl rfl rfl rfl ?_
  refine m_getf (i := 1) (pc' := 4) rfl rfl flX11_19 (sh0 G) rfl rfl ?_
  refine x_aload_n (i := 2) (pc' := 5) rfl rfl rfl rfl ?_
  refine m_getf (i := 3) (pc' := 8) rfl rfl flX11_10 (sh0 G) rfl rfl ?_
  refine m_callV (i := 4) (pc' := 11) (av := [_]) (rest := []) rfl rfl (by decide) lX11_76 (sh8 G) rfl rfl rfl rfl rfl (Nat.le_of_ble_eq_true rfl) (Nat.le_refl _) (Nat.le_refl _) (s_X5_stage (by omega) ?_)
  dsimp only [psh]
  refine x_aload_n (i := 5) (pc' := 12) rfl rfl rfl rfl ?_
  refine x_aload_n (i := 6) (pc' := 13) rfl rfl rfl rfl ?_
  refine m_getf (i := 7) (pc' := 16) rfl rfl flX11_10 (sh0 G) rfl rfl ?_
  refine m_getf (i := 8) (pc' := 19) rfl rfl flX11_80 (sh1 G) rfl rfl ?_
  refine x_iload_n (i := 9) (pc' := 20) rfl rfl rfl rfl ?_
  refine x_iload_n (i := 10) (pc' := 21) rfl rfl rfl rfl ?_
  refine m_callV (i := 11) (pc' := 24) (av := [_, _]) (rest := [_]) rfl rfl (by decide) lX11_105 (sh2 G) rfl rfl rfl rfl rfl (Nat.le_of_ble_eq_true rfl) (Nat.le_refl _) (Nat.le_refl _) (s_X3_addRandom hM hn h1 h2 ?_)
  dsimp only [psh]
  refine m_callV (i := 12) (pc' := 27) (av := [_]) (rest := []) rfl rfl (by decide) lX11_90 (sh0 G) rfl rfl rfl rfl rfl (Nat.le_of_ble_eq_true rfl) (Nat.le_refl _) (Nat.le_refl _) (s_X11_undoable (px_of (adz_8 (stg m) a b (by decide) (by decide)) hx) (er_of (adz_8 (stg m) a b (by decide) (by decide)) her) (by omega) ?_)
  dsimp only [psh]
  exact m_ireturn (i := 13) rfl rfl (hQ)
