def ed1 (m : Mem) (h0 : Int) : Int := it (fun w h => 31 * h + tlm m w) 0 11 h0
def sgm (m : Mem) (k w : Int) : Int := if w < 5 then m 77 (2 + 5 * k + w) else wdw m k
def ed2 (m : Mem) (k h0 : Int) : Int := it (fun w h => 31 * h + sgm m k w) 0 6 h0
def ed3 (m : Mem) (h0 : Int) : Int := it (fun k h => ed2 m k h) 0 (m 77 0).toNat h0
def ed4 (m : Mem) (i h0 : Int) : Int := it (fun w h => 31 * h + wim m i w) 0 7 h0
def ed5 (m : Mem) (h0 : Int) : Int := it (fun i h => ed4 m i h) 0 (m 77 1).toNat h0
def ed6 (w : Int) (x : Int × Mem) : Int × Mem := (31 * x.1 + alr x.2 w, alx x.2 w)
def ed7 (m : Mem) (h0 : Int) : Int × Mem := it (fun w x => ed6 w x) 0 7 (h0, m)
def ed8 (m : Mem) (h0 : Int) : Int := it (fun s h => 31 * h + m 77 (134 + s)) 0 6 h0
def edz (y : Mem) (h0 : Int) (r : Int × Mem) : Int := 31 * (31 * (31 * ed8 y h0 + r.1) + twn r.2 (-1)) + lnf r.2
def edr (m : Mem) : Int × Mem := ed7 m (ed5 m (ed3 m (ed1 m 2287)))
def edg (m : Mem) : Int := edz (edr m).2 (edr m).1 (bwm (edr m).2)
def edm (m : Mem) : Mem := (bwm (edr m).2).2
theorem tlm_rg {m : Mem} (h : MR m) (w : Int) : rg (tlm m w) := by
  unfold tlm
  (repeat' split) <;> exact h _ _
theorem wdw_rg {m : Mem} (hc : CMd m) (k : Int) : rg (wdw m k) := by
  have := wdw_nn m k; have := hc.2; omega
theorem wim_rg {m : Mem} (h : MR m) (hc : CMd m) {i w : Int} (hi : i < m 77 1) : rg (wim m i w) := by
  have h1 := clm_le m i; have h2 := vnm_01 m i; have := hc.2
  unfold wim
  (repeat' split) <;> first | exact mnt_rg h _ _ | exact h _ _ | omega
theorem soa_le {m : Mem} (hc : CMd m) : 0 ≤ soa m ∧ soa m ≤ 256 := by
  have h0 := hc.1; have h1 := hc.2
  have := it_Ij (f := fun i x => sow m i x) (fun j x => 0 ≤ x ∧ x ≤ 16 * j) (m 77 1).toNat 0 0 (fun i y a b c => by
    have hin := it_Ij (f := fun k x => sor m i k x) (fun j x => y ≤ x ∧ x ≤ y + j) i.toNat 0 y (fun k z a b c => by unfold sor; split <;> omega) (by omega)
    unfold sow
    omega) (by omega)
  unfold soa
  omega
theorem odd_le {m : Mem} (hc : CMd m) (cl : Int) : 0 ≤ odd m cl ∧ odd m cl ≤ 16 := by
  refine it_I (I := fun x : Int => 0 ≤ x ∧ x ≤ 16) _ _ _ (fun i y _ _ hy => ?_) (by decide)
  have := odi_le m hc cl i
  split <;> omega
theorem mvd_le {m : Mem} (hc : CMd m) : -300 ≤ mvd m ∧ mvd m ≤ 300 := by
  have h0 := hc.1; have h1 := hc.2; have h2 := cls_le m hc
  have := it_Ij (f := fun cl x => x + odd m cl) (fun j x => 0 ≤ x ∧ x ≤ 16 * j) (cls m).toNat 0 0 (fun i y a b c => by have := odd_le hc i; omega) (by omega)
  unfold mvd
  omega
theorem vna_le {m : Mem} (hc : CMd m) : 0 ≤ vna m ∧ vna m ≤ 16 := by
  have h0 := hc.1; have h1 := hc.2
  have := it_Ij (f := fun i x => x + (if vnm m i = 0 then 0 else 1)) (fun j x => 0 ≤ x ∧ x ≤ j) (m 77 1).toNat 0 0 (fun i y a b c => by split <;> omega) (by omega)
  unfold vna
  omega
theorem spa_le {m : Mem} (hc : CMd m) (hwd : WDn m) : 0 ≤ spa m ∧ spa m < 64 := by
  have h0 := hc.1; have h1 := hc.2
  refine it_I (I := fun x : Int => 0 ≤ x ∧ x < 64) _ _ _ (fun i y a b hy => ?_) (by decide)
  refine it_I (I := fun x : Int => 0 ≤ x ∧ x < 64) _ _ _ (fun w z c d hz => ?_) hy
  have hw2 := hwd i (by omega) (by omega)
  have hw3 : -1 ≤ m 77 (82 + 3 * i + w) ∧ m 77 (82 + 3 * i + w) ≤ 5 := (by rcases (by omega : w = 1 ∨ w = 2) with rfl | rfl <;> omega)
  unfold spr1
  refine ⟨io_nn _ _, io_lt 6 hz ?_⟩
  split
  · decide
  · have := pw5 (j := m 77 (82 + 3 * i + w)) (by omega); omega
theorem alr_rg {m : Mem} (h : GM m) (w : Int) : rg (alr m w) := by
  obtain ⟨hM, ⟨hn, hc, hv, hst, hw, hwd, hpo⟩, hst5, hle, her⟩ := h
  have hwn := hwd.n hn
  have e77 : lyw m 77 = m 77 := lyw_ne m (by decide)
  have a1 := cls_le m hc; have a2 := vna_le hc; have a3 := soa_le hc; have a4 := mvd_le hc; have a5 := spa_le hc hwn
  have a6 := way_le (m := lyw m) (by unfold CMd; rw [e77]; exact hc) (by unfold WDn; rw [e77]; exact hwn) (lyw_LIE hpo)
  unfold alr
  (repeat' split) <;> first | exact hM _ _ | omega
theorem GM.cg {m x : Mem} (h : GM m) (hM : MR x) (h6 : x 76 = m 76) (h7 : x 77 = m 77) (h8 : x 78 = m 78) : GM x := by
  obtain ⟨_, ⟨hn, hc, hv, hst, hw, hwd, hpo⟩, hst5, hle, her⟩ := h
  unfold GM NM CMd PVs PV SRm WTm WDm POm ST ERm
  rw [h6, h7, h8]
  exact ⟨hM, ⟨hn, hc, hv, hst, hw, hwd, hpo⟩, hst5, hle, her⟩
theorem alx_in {m : Mem} (h : GM m) {w : Int} (hw : 0 ≤ w ∧ w ≤ 6) : GM (alx m w) ∧ alx m w 77 = m 77 ∧ alx m w 76 = m 76 ∧ alx m w 78 = m 78 := by
  unfold alx
  split
  · exact ⟨h.cg (lyw_MR h.1) (lyw_ne _ (by decide)) (lyw_ne _ (by decide)) (lyw_ne _ (by decide)), lyw_ne _ (by decide), lyw_ne _ (by decide), lyw_ne _ (by decide)⟩
  · first | exact ⟨h, rfl, rfl, rfl⟩ | (rw [if_pos hw]; exact ⟨h, rfl, rfl, rfl⟩)
theorem twn_le {m : Mem} (hn : NM m) (a : Int) : 0 ≤ twn m a ∧ twn m a ≤ 256 := by
  have h0 := hn.1; have h1 := hn.2
  have := it_Ij (f := fun j x => tww m a j x) (fun j x => 0 ≤ x ∧ x ≤ 16 * j) (m 77 0).toNat 0 0 (fun i y b c d => by
    have hin := it_Ij (f := fun k x => twr m a i k x) (fun j x => y ≤ x ∧ x ≤ y + j) i.toNat 0 y (fun k z a b c => by unfold twr; split <;> omega) (by omega)
    unfold tww
    omega) (by omega)
  unfold twn
  omega
theorem lnf_le (m : Mem) : 0 ≤ lnf m ∧ lnf m ≤ 15 := by
  have := it_Ij (f := fun j x => if ¬ eno m (15 - j) = 0 ∧ ons (15 - j) ≤ ons x then 15 - j else x) (fun j x => 0 ≤ x ∧ x ≤ 15) 16 0 15 (fun i y a b c => by split <;> omega) (by omega)
  exact this
theorem ed_e {G : GG} {Q : Option Value → Mem → Prop} {x : Mem} {h : Int} {L3 L4 : Option Value} (hM : MR x) (hn : NM x) (hQ : Q (some (.long (JL (31 * (31 * h + twn x (-1)) + lnf x)))) x) : BW G 7 mX12_digest Q 214 [some (.ref (G.2.2.2 76)), some (.long (JL h)), none, L3, L4] [] x := by
  refine AW.le (K := [some (.ref (G.2.2.2 76)), some (.long (JL h)), none, none, none]) (by simp [lvle]) ?_
  have t1 := twn_le hn (-1); have t2 := lnf_le x
  refine x_ldc2 (i := 122) (pc' := 217) rfl rfl kX12_296 ?_
  refine x_lload_n (i := 123) (pc' := 218) rfl rfl rfl rfl ?_
  refine x_lmul (i := 124) (pc' := 219) rfl rfl ?_
  refine x_aload_n (i := 125) (pc' := 220) rfl rfl rfl rfl ?_
  refine x_iconst (i := 126) (pc' := 221) rfl rfl ?_
  refine m_callV (i := 127) (pc' := 224) (av := [_]) (rest := [_]) rfl rfl (by decide) lX12_160 (sh76 G) rfl rfl rfl rfl rfl (Nat.le_of_ble_eq_true rfl) (Nat.le_refl _) (Nat.le_refl _) (s_X12_twinsBy hM hn (by omega) ?_)
  dsimp only [psh]
  refine x_i2l (i := 128) (pc' := 225) rfl rfl ⟨by omega, by omega⟩ ?_
  refine x_ladd (i := 129) (pc' := 226) rfl rfl ?_
  refine x_lstore_n (L' := [some _, some _, none, none, none]) (i := 130) (pc' := 227) rfl rfl rfl rfl (by decide) rfl ?_
  refine x_ldc2 (i := 131) (pc' := 230) rfl rfl kX12_296 ?_
  refine x_lload_n (i := 132) (pc' := 231) rfl rfl rfl rfl ?_
  refine x_lmul (i := 133) (pc' := 232) rfl rfl ?_
  refine x_aload_n (i := 134) (pc' := 233) rfl rfl rfl rfl ?_
  refine m_callV (i := 135) (pc' := 236) (av := []) (rest := [_]) rfl rfl (by decide) lX12_168 (sh76 G) rfl rfl rfl rfl rfl (Nat.le_of_ble_eq_true rfl) (Nat.le_refl _) (Nat.le_refl _) (s_X12_leastEnough hM hn ?_)
  dsimp only [psh]
  refine x_i2l (i := 136) (pc' := 237) rfl rfl ⟨by omega, by omega⟩ ?_
  refine x_ladd (i := 137) (pc' := 238) rfl rfl ?_
  exact m_lreturn (i := 138) rfl rfl (hQ)
theorem ed_d {G : GG} {Q : Option Value → Mem → Prop} {y : Mem} {h : Int} {L3 L4 : Option Value} (hM : MR y) (hn : NM y) (hc : CMd y) (hwd : WDn y) (hQ : Q (some (.long (JL (31 * (31 * (31 * h + (bwm y).1) + twn (bwm y).2 (-1)) + lnf (bwm y).2)))) (bwm y).2) : BW G 7 mX12_digest Q 202 [some (.ref (G.2.2.2 76)), some (.long (JL h)), none, L3, L4] [] y := by
  refine AW.le (K := [some (.ref (G.2.2.2 76)), some (.long (JL h)), none, none, none]) (by simp [lvle]) ?_
  obtain ⟨b1, b2, b3, b4, b5⟩ := bwm_I hM hc hwd
  have n2 : NM (bwm y).2 := (by unfold NM; rw [b3]; exact hn)
  refine x_ldc2 (i := 114) (pc' := 205) rfl rfl kX12_296 ?_
  refine x_lload_n (i := 115) (pc' := 206) rfl rfl rfl rfl ?_
  refine x_lmul (i := 116) (pc' := 207) rfl rfl ?_
  refine x_aload_n (i := 117) (pc' := 208) rfl rfl rfl rfl ?_
  refine m_callV (i := 118) (pc' := 211) (av := []) (rest := [_]) rfl rfl (by decide) lX12_246 (sh76 G) rfl rfl rfl rfl rfl (Nat.le_of_ble_eq_true rfl) (Nat.le_refl _) (Nat.le_refl _) (s_X12_bestWay hM hc hwd ?_)
  dsimp only [psh]
  generalize bwm y = r at b1 b2 n2 hQ ⊢
  refine x_i2l (i := 119) (pc' := 212) rfl rfl ⟨by omega, by omega⟩ ?_
  refine x_ladd (i := 120) (pc' := 213) rfl rfl ?_
  refine x_lstore_n (L' := [some _, some _, none, none, none]) (i := 121) (pc' := 214) rfl rfl rfl rfl (by decide) rfl ?_
  exact ed_e b2 n2 hQ
theorem ed_c {G : GG} {Q : Option Value → Mem → Prop} {y : Mem} {h : Int} {L4 : Option Value} (hM : MR y) (hn : NM y) (hc : CMd y) (hwd : WDn y) (hQ : Q (some (.long (JL (edz y h (bwm y))))) (bwm y).2) : BW G 7 mX12_digest Q 172 [some (.ref (G.2.2.2 76)), some (.long (JL h)), none, some (.int (J 0)), L4] [] y := by
  refine AW.le (K := [some (.ref (G.2.2.2 76)), some (.long (JL h)), none, some (.int (J 0)), none]) (by simp [lvle]) ?_
  refine up_ind0 (P := fun (j : Int) (x : Int) => BW G 7 mX12_digest Q 172 [some (.ref (G.2.2.2 76)), some (.long (JL (x))), none, some (.int (J (j))), none] [] y) (fun (j : Int) (x : Int) => 31 * x + y 77 (134 + j)) (6) (0) (h) (by omega) (fun j x hj0 hj hk => ?_) ?_
  · skip
    refine x_iload_n (i := 97) (pc' := 173) rfl rfl rfl rfl ?_
    refine x_bipush (i := 98) (pc' := 175) rfl rfl (by decide) ?_
    refine x_icmpge (i := 99) (pc' := 178) (tgt := 202) rfl rfl (by decide) (by first | omega | exact hM _ _) (by first | omega | exact hM _ _) (fun c1 => by exfalso; omega) (fun c1 => ?_)
    refine x_ldc2 (i := 100) (pc' := 181) rfl rfl kX12_296 ?_
    refine x_lload_n (i := 101) (pc' := 182) rfl rfl rfl rfl ?_
    refine x_lmul (i := 102) (pc' := 183) rfl rfl ?_
    refine x_aload_n (i := 103) (pc' := 184) rfl rfl rfl rfl ?_
    refine m_getf (i := 104) (pc' := 187) rfl rfl flX12_7 (sh76 G) rfl rfl ?_
    refine x_sipush (i := 105) (pc' := 190) rfl rfl (by decide) ?_
    refine x_iload_n (i := 106) (pc' := 191) rfl rfl rfl rfl ?_
    refine x_iadd (i := 107) (pc' := 192) rfl rfl ?_
    refine m_iald (i := 108) (pc' := 193) rfl rfl (sh77 G) (by decide) ⟨by omega, by omega⟩ ?_
    refine x_i2l (i := 109) (pc' := 194) rfl rfl (by first | omega | exact hM _ _) ?_
    refine x_ladd (i := 110) (pc' := 195) rfl rfl ?_
    refine x_lstore_n (L' := [some _, some _, none, some _, none]) (i := 111) (pc' := 196) rfl rfl rfl rfl (by decide) rfl ?_
    refine x_iinc (L' := [some _, some _, none, some _, none]) (i := 112) (pc' := 199) rfl rfl rfl rfl (by decide) rfl ?_
    refine x_goto (i := 113) (pc' := 172) rfl (by decide) ?_
    (first | exact hk | (refine AW.le ?_ hk; simp [lvle]; done) | ((repeat' split at hk) <;> first | exact hk | (refine AW.le ?_ hk; simp [lvle]; done) | (exfalso; omega)))
  · skip
    refine x_iload_n (i := 97) (pc' := 173) rfl rfl rfl rfl ?_
    refine x_bipush (i := 98) (pc' := 175) rfl rfl (by decide) ?_
    refine x_icmpge (i := 99) (pc' := 178) (tgt := 202) rfl rfl (by decide) ⟨by omega, by omega⟩ ⟨by omega, by omega⟩ (fun c1 => ?_) (fun c1 => by exfalso; omega)
    exact ed_d hM hn hc hwd hQ
theorem ed_b {G : GG} {Q : Option Value → Mem → Prop} {y : Mem} {h : Int} {L4 : Option Value} (hg : GM y) (hQ : Q (some (.long (JL (edz (ed7 y h).2 (ed7 y h).1 (bwm (ed7 y h).2))))) (bwm (ed7 y h).2).2) : BW G 7 mX12_digest Q 145 [some (.ref (G.2.2.2 76)), some (.long (JL h)), none, some (.int (J 0)), L4] [] y := by
  refine AW.le (K := [some (.ref (G.2.2.2 76)), some (.long (JL h)), none, some (.int (J 0)), none]) (by simp [lvle]) ?_
  refine up_ind1 (P := fun (j : Int) (x : Int × Mem) => BW G 7 mX12_digest Q 145 [some (.ref (G.2.2.2 76)), some (.long (JL (x.1))), none, some (.int (J (j))), none] [] x.2) (fun (j : Int) (x : Int × Mem) => ed6 j x) (fun (j : Int) (x : Int × Mem) => GM x.2) (7) (0) ((h, y)) (by omega) (hg) (fun j x hj0 hj hi => (alx_in hi (by omega)).1) (fun j x hj0 hj hi hk => ?_) (fun hi => ?_)
  · have hal := alr_rg hi j
    refine x_iload_n (i := 81) (pc' := 146) rfl rfl rfl rfl ?_
    refine x_bipush (i := 82) (pc' := 148) rfl rfl (by decide) ?_
    refine x_icmpge (i := 83) (pc' := 151) (tgt := 170) rfl rfl (by decide) ⟨by omega, by omega⟩ ⟨by omega, by omega⟩ (fun c1 => by exfalso; omega) (fun c1 => ?_)
    refine x_ldc2 (i := 84) (pc' := 154) rfl rfl kX12_296 ?_
    refine x_lload_n (i := 85) (pc' := 155) rfl rfl rfl rfl ?_
    refine x_lmul (i := 86) (pc' := 156) rfl rfl ?_
    refine x_aload_n (i := 87) (pc' := 157) rfl rfl rfl rfl ?_
    refine x_iload_n (i := 88) (pc' := 158) rfl rfl rfl rfl ?_
    refine m_callV (i := 89) (pc' := 161) (av := [_]) (rest := [_]) rfl rfl (by decide) lX12_298 (sh76 G) rfl rfl rfl rfl rfl (Nat.le_of_ble_eq_true rfl) (Nat.le_refl _) (Nat.le_refl _) (s_X12_all hi (by omega) ?_)
    dsimp only [psh]
    refine x_i2l (i := 90) (pc' := 162) rfl rfl ⟨by omega, by omega⟩ ?_
    refine x_ladd (i := 91) (pc' := 163) rfl rfl ?_
    refine x_lstore_n (L' := [some _, some _, none, some _, none]) (i := 92) (pc' := 164) rfl rfl rfl rfl (by decide) rfl ?_
    refine x_iinc (L' := [some _, some _, none, some _, none]) (i := 93) (pc' := 167) rfl rfl rfl rfl (by decide) rfl ?_
    refine x_goto (i := 94) (pc' := 145) rfl (by decide) ?_
    (first | exact hk | (refine AW.le ?_ hk; simp [lvle]; done) | ((repeat' split at hk) <;> first | exact hk | (refine AW.le ?_ hk; simp [lvle]; done) | (exfalso; omega)))
  · have e7 : it (fun (j : Int) (x : Int × Mem) => ed6 j x) 0 (7 - 0 : Int).toNat (h, y) = ed7 y h := rfl
    rw [e7] at hi ⊢
    generalize ed7 y h = r at hi hQ ⊢
    obtain ⟨hM, ⟨hn, hc, hv, hst, hw, hwd, hpo⟩, hst5, hle, her⟩ := hi
    refine x_iload_n (i := 81) (pc' := 146) rfl rfl rfl rfl ?_
    refine x_bipush (i := 82) (pc' := 148) rfl rfl (by decide) ?_
    refine x_icmpge (i := 83) (pc' := 151) (tgt := 170) rfl rfl (by decide) ⟨by omega, by omega⟩ ⟨by omega, by omega⟩ (fun c1 => ?_) (fun c1 => by exfalso; omega)
    refine x_iconst (i := 95) (pc' := 171) rfl rfl ?_
    refine x_istore_n (L' := [some _, some _, none, some _, none]) (i := 96) (pc' := 172) rfl rfl rfl rfl (by decide) rfl ?_
    exact ed_c hM hn hc (hwd.n hn) hQ
theorem ed_a {G : GG} {Q : Option Value → Mem → Prop} {m : Mem} {h : Int} {L4 : Option Value} (hg : GM m) (hQ : Q (some (.long (JL (edz (ed7 m (ed5 m h)).2 (ed7 m (ed5 m h)).1 (bwm (ed7 m (ed5 m h)).2))))) (bwm (ed7 m (ed5 m h)).2).2) : BW G 7 mX12_digest Q 96 [some (.ref (G.2.2.2 76)), some (.long (JL h)), none, some (.int (J 0)), L4] [] m := by
  refine AW.le (K := [some (.ref (G.2.2.2 76)), some (.long (JL h)), none, some (.int (J 0)), none]) (by simp [lvle]) ?_
  obtain ⟨hM, ⟨hn, hc, hv, hst, hw, hwd, hpo⟩, hst5, hle, her⟩ := id hg
  have hwn := hwd.n hn
  have hc0 := hc.1; have hc1 := hc.2
  refine up_ind0 (P := fun (i : Int) (x : Int) => BW G 7 mX12_digest Q 96 [some (.ref (G.2.2.2 76)), some (.long (JL (x))), none, some (.int (J (i))), none] [] m) (fun (i : Int) (x : Int) => ed4 m i x) (m 77 1) (0) (h) (by omega) (fun i x hj0 hj hk => ?_) ?_
  · skip
    refine x_iload_n (i := 54) (pc' := 97) rfl rfl rfl rfl ?_
    refine x_aload_n (i := 55) (pc' := 98) rfl rfl rfl rfl ?_
    refine m_getf (i := 56) (pc' := 101) rfl rfl flX12_7 (sh76 G) rfl rfl ?_
    refine x_iconst (i := 57) (pc' := 102) rfl rfl ?_
    refine m_iald (i := 58) (pc' := 103) rfl rfl (sh77 G) (by decide) ⟨by omega, by omega⟩ ?_
    refine x_icmpge (i := 59) (pc' := 106) (tgt := 143) rfl rfl (by decide) ⟨by omega, by omega⟩ ⟨by omega, by omega⟩ (fun c1 => by exfalso; omega) (fun c1 => ?_)
    refine x_iconst (i := 60) (pc' := 107) rfl rfl ?_
    refine x_istore (L' := [some _, some _, none, some _, some _]) (i := 61) (pc' := 109) rfl rfl rfl (by decide) rfl ?_
    refine up_ind0 (P := fun (w : Int) (y : Int) => BW G 7 mX12_digest Q 109 [some (.ref (G.2.2.2 76)), some (.long (JL (y))), none, some (.int (J (i))), some (.int (J (w)))] [] m) (fun (w : Int) (y : Int) => 31 * y + wim m i w) (7) (0) (x) (by omega) (fun w y hj02 hj2 hk2 => ?_) ?_
    · have hwr := wim_rg (w := w) hM hc (i := i) (by omega)
      refine x_iload (i := 62) (pc' := 111) rfl rfl rfl ?_
      refine x_bipush (i := 63) (pc' := 113) rfl rfl (by decide) ?_
      refine x_icmpge (i := 64) (pc' := 116) (tgt := 137) rfl rfl (by decide) ⟨by omega, by omega⟩ ⟨by omega, by omega⟩ (fun e1 => by exfalso; omega) (fun e1 => ?_)
      refine x_ldc2 (i := 65) (pc' := 119) rfl rfl kX12_296 ?_
      refine x_lload_n (i := 66) (pc' := 120) rfl rfl rfl rfl ?_
      refine x_lmul (i := 67) (pc' := 121) rfl rfl ?_
      refine x_aload_n (i := 68) (pc' := 122) rfl rfl rfl rfl ?_
      refine x_iload_n (i := 69) (pc' := 123) rfl rfl rfl rfl ?_
      refine x_iload (i := 70) (pc' := 125) rfl rfl rfl ?_
      refine m_callV (i := 71) (pc' := 128) (av := [_, _]) (rest := [_]) rfl rfl (by decide) lX12_206 (sh76 G) rfl rfl rfl rfl rfl (Nat.le_of_ble_eq_true rfl) (Nat.le_refl _) (Nat.le_refl _) (s_X12_wordIs hM hc hwn (by omega) (by omega) ?_)
      dsimp only [psh]
      refine x_i2l (i := 72) (pc' := 129) rfl rfl ⟨by omega, by omega⟩ ?_
      refine x_ladd (i := 73) (pc' := 130) rfl rfl ?_
      refine x_lstore_n (L' := [some _, some _, none, some _, some _]) (i := 74) (pc' := 131) rfl rfl rfl rfl (by decide) rfl ?_
      refine x_iinc (L' := [some _, some _, none, some _, some _]) (i := 75) (pc' := 134) rfl rfl rfl rfl (by decide) rfl ?_
      refine x_goto (i := 76) (pc' := 109) rfl (by decide) ?_
      (first | exact hk2 | (refine AW.le ?_ hk2; simp [lvle]; done) | ((repeat' split at hk2) <;> first | exact hk2 | (refine AW.le ?_ hk2; simp [lvle]; done) | (exfalso; omega)))
    · skip
      refine x_iload (i := 62) (pc' := 111) rfl rfl rfl ?_
      refine x_bipush (i := 63) (pc' := 113) rfl rfl (by decide) ?_
      refine x_icmpge (i := 64) (pc' := 116) (tgt := 137) rfl rfl (by decide) ⟨by omega, by omega⟩ ⟨by omega, by omega⟩ (fun f1 => ?_) (fun f1 => by exfalso; omega)
      refine x_iinc (L' := [some _, some _, none, some _, some _]) (i := 77) (pc' := 140) rfl rfl rfl rfl (by decide) rfl ?_
      refine x_goto (i := 78) (pc' := 96) rfl (by decide) ?_
      (unfold ed4 at hk; first | exact hk | (refine AW.le ?_ hk; simp [lvle]; done) | ((repeat' split at hk) <;> first | exact hk | (refine AW.le ?_ hk; simp [lvle]; done) | (exfalso; omega)))
  · rw [Int.sub_zero]
    have e5 : it (fun (i : Int) (x : Int) => ed4 m i x) 0 (m 77 1).toNat h = ed5 m h := rfl
    rw [e5]
    generalize ed5 m h = z at hQ ⊢
    refine x_iload_n (i := 54) (pc' := 97) rfl rfl rfl rfl ?_
    refine x_aload_n (i := 55) (pc' := 98) rfl rfl rfl rfl ?_
    refine m_getf (i := 56) (pc' := 101) rfl rfl flX12_7 (sh76 G) rfl rfl ?_
    refine x_iconst (i := 57) (pc' := 102) rfl rfl ?_
    refine m_iald (i := 58) (pc' := 103) rfl rfl (sh77 G) (by decide) ⟨by omega, by omega⟩ ?_
    refine x_icmpge (i := 59) (pc' := 106) (tgt := 143) rfl rfl (by decide) ⟨by omega, by omega⟩ ⟨by omega, by omega⟩ (fun c1 => ?_) (fun c1 => by exfalso; omega)
    refine x_iconst (i := 79) (pc' := 144) rfl rfl ?_
    refine x_istore_n (L' := [some _, some _, none, some _, none]) (i := 80) (pc' := 145) rfl rfl rfl rfl (by decide) rfl ?_
    exact ed_b hg hQ
theorem ed_0 {G : GG} {Q : Option Value → Mem → Prop} {m : Mem} {h : Int} (hg : GM m) (hQ : Q (some (.long (JL (edz (ed7 m (ed5 m (ed3 m h))).2 (ed7 m (ed5 m (ed3 m h))).1 (bwm (ed7 m (ed5 m (ed3 m h))).2))))) (bwm (ed7 m (ed5 m (ed3 m h))).2).2) : BW G 7 mX12_digest Q 33 [some (.ref (G.2.2.2 76)), some (.long (JL h)), none, some (.int (J 0)), none] [] m := by
  obtain ⟨hM, ⟨hn, hc, hv, hst, hw, hwd, hpo⟩, hst5, hle, her⟩ := id hg
  have hn0 := hn.1; have hn1 := hn.2
  refine up_ind0 (P := fun (k : Int) (x : Int) => BW G 7 mX12_digest Q 33 [some (.ref (G.2.2.2 76)), some (.long (JL (x))), none, some (.int (J (k))), none] [] m) (fun (k : Int) (x : Int) => ed2 m k x) (m 77 0) (0) (h) (by omega) (fun k x hj0 hj hk => ?_) ?_
  · skip
    refine x_iload_n (i := 20) (pc' := 34) rfl rfl rfl rfl ?_
    refine x_aload_n (i := 21) (pc' := 35) rfl rfl rfl rfl ?_
    refine m_getf (i := 22) (pc' := 38) rfl rfl flX12_7 (sh76 G) rfl rfl ?_
    refine x_iconst (i := 23) (pc' := 39) rfl rfl ?_
    refine m_iald (i := 24) (pc' := 40) rfl rfl (sh77 G) (by decide) ⟨by omega, by omega⟩ ?_
    refine x_icmpge (i := 25) (pc' := 43) (tgt := 94) rfl rfl (by decide) ⟨by omega, by omega⟩ ⟨by omega, by omega⟩ (fun c1 => by exfalso; omega) (fun c1 => ?_)
    refine x_iconst (i := 26) (pc' := 44) rfl rfl ?_
    refine x_istore (L' := [some _, some _, none, some _, some _]) (i := 27) (pc' := 46) rfl rfl rfl (by decide) rfl ?_
    refine up_ind0 (P := fun (w : Int) (y : Int) => BW G 7 mX12_digest Q 46 [some (.ref (G.2.2.2 76)), some (.long (JL (y))), none, some (.int (J (k))), some (.int (J (w)))] [] m) (fun (w : Int) (y : Int) => 31 * y + sgm m k w) (6) (0) (x) (by omega) (fun w y hj02 hj2 hk2 => ?_) ?_
    · have hwr := wdw_rg hc k
      refine x_iload (i := 28) (pc' := 48) rfl rfl rfl ?_
      refine x_bipush (i := 29) (pc' := 50) rfl rfl (by decide) ?_
      refine x_icmpge (i := 30) (pc' := 53) (tgt := 88) rfl rfl (by decide) (by first | omega | exact hM _ _) (by first | omega | exact hM _ _) (fun e1 => by exfalso; omega) (fun e1 => ?_)
      refine x_ldc2 (i := 31) (pc' := 56) rfl rfl kX12_296 ?_
      refine x_lload_n (i := 32) (pc' := 57) rfl rfl rfl rfl ?_
      refine x_lmul (i := 33) (pc' := 58) rfl rfl ?_
      refine x_iload (i := 34) (pc' := 60) rfl rfl rfl ?_
      refine x_iconst (i := 35) (pc' := 61) rfl rfl ?_
      refine x_icmpge (i := 36) (pc' := 64) (tgt := 74) rfl rfl (by decide) (by first | omega | exact hM _ _) (by first | omega | exact hM _ _) (fun e2 => ?_) (fun e2 => ?_)
      · skip
        refine x_aload_n (i := 42) (pc' := 75) rfl rfl rfl rfl ?_
        refine x_iload_n (i := 43) (pc' := 76) rfl rfl rfl rfl ?_
        refine m_callV (i := 44) (pc' := 79) (av := [_]) (rest := [_]) rfl rfl (by decide) lX12_84 (sh76 G) rfl rfl rfl rfl rfl (Nat.le_of_ble_eq_true rfl) (Nat.le_refl _) (Nat.le_refl _) (s_X12_wordsWith hM hc (by omega) ?_)
        dsimp only [psh]
        refine x_i2l (i := 45) (pc' := 80) rfl rfl (by first | omega | exact hM _ _) ?_
        refine x_ladd (i := 46) (pc' := 81) rfl rfl ?_
        refine x_lstore_n (L' := [some _, some _, none, some _, some _]) (i := 47) (pc' := 82) rfl rfl rfl rfl (by decide) rfl ?_
        refine x_iinc (L' := [some _, some _, none, some _, some _]) (i := 48) (pc' := 85) rfl rfl rfl rfl (by decide) rfl ?_
        refine x_goto (i := 49) (pc' := 46) rfl (by decide) ?_
        (unfold sgm at hk2; first | exact hk2 | (refine AW.le ?_ hk2; simp [lvle]; done) | ((repeat' split at hk2) <;> first | exact hk2 | (refine AW.le ?_ hk2; simp [lvle]; done) | (exfalso; omega)))
      · skip
        refine x_aload_n (i := 37) (pc' := 65) rfl rfl rfl rfl ?_
        refine x_iload_n (i := 38) (pc' := 66) rfl rfl rfl rfl ?_
        refine x_iload (i := 39) (pc' := 68) rfl rfl rfl ?_
        refine m_callV (i := 40) (pc' := 71) (av := [_, _]) (rest := [_]) rfl rfl (by decide) lX12_52 (sh76 G) rfl rfl rfl rfl rfl (Nat.le_of_ble_eq_true rfl) (Nat.le_refl _) (Nat.le_refl _) (s_X12_part (by omega) (by omega) ?_)
        dsimp only [psh]
        refine x_goto (i := 41) (pc' := 79) rfl (by decide) ?_
        refine x_i2l (i := 45) (pc' := 80) rfl rfl (by first | omega | exact hM _ _) ?_
        refine x_ladd (i := 46) (pc' := 81) rfl rfl ?_
        refine x_lstore_n (L' := [some _, some _, none, some _, some _]) (i := 47) (pc' := 82) rfl rfl rfl rfl (by decide) rfl ?_
        refine x_iinc (L' := [some _, some _, none, some _, some _]) (i := 48) (pc' := 85) rfl rfl rfl rfl (by decide) rfl ?_
        refine x_goto (i := 49) (pc' := 46) rfl (by decide) ?_
        (unfold sgm at hk2; first | exact hk2 | (refine AW.le ?_ hk2; simp [lvle]; done) | ((repeat' split at hk2) <;> first | exact hk2 | (refine AW.le ?_ hk2; simp [lvle]; done) | (exfalso; omega)))
    · skip
      refine x_iload (i := 28) (pc' := 48) rfl rfl rfl ?_
      refine x_bipush (i := 29) (pc' := 50) rfl rfl (by decide) ?_
      refine x_icmpge (i := 30) (pc' := 53) (tgt := 88) rfl rfl (by decide) ⟨by omega, by omega⟩ ⟨by omega, by omega⟩ (fun f1 => ?_) (fun f1 => by exfalso; omega)
      refine x_iinc (L' := [some _, some _, none, some _, some _]) (i := 50) (pc' := 91) rfl rfl rfl rfl (by decide) rfl ?_
      refine x_goto (i := 51) (pc' := 33) rfl (by decide) ?_
      (unfold ed2 at hk; first | exact hk | (refine AW.le ?_ hk; simp [lvle]; done) | ((repeat' split at hk) <;> first | exact hk | (refine AW.le ?_ hk; simp [lvle]; done) | (exfalso; omega)))
  · rw [Int.sub_zero]
    have e5 : it (fun (k : Int) (x : Int) => ed2 m k x) 0 (m 77 0).toNat h = ed3 m h := rfl
    rw [e5]
    generalize ed3 m h = z at hQ ⊢
    refine x_iload_n (i := 20) (pc' := 34) rfl rfl rfl rfl ?_
    refine x_aload_n (i := 21) (pc' := 35) rfl rfl rfl rfl ?_
    refine m_getf (i := 22) (pc' := 38) rfl rfl flX12_7 (sh76 G) rfl rfl ?_
    refine x_iconst (i := 23) (pc' := 39) rfl rfl ?_
    refine m_iald (i := 24) (pc' := 40) rfl rfl (sh77 G) (by decide) ⟨by omega, by omega⟩ ?_
    refine x_icmpge (i := 25) (pc' := 43) (tgt := 94) rfl rfl (by decide) ⟨by omega, by omega⟩ ⟨by omega, by omega⟩ (fun c1 => ?_) (fun c1 => by exfalso; omega)
    refine x_iconst (i := 52) (pc' := 95) rfl rfl ?_
    refine x_istore_n (L' := [some _, some _, none, some _, none]) (i := 53) (pc' := 96) rfl rfl rfl rfl (by decide) rfl ?_
    exact ed_a hg hQ
theorem s_X12_digest {G : GG} {m : Mem} {Q : Option Value → Mem → Prop} (h : GM m) (hQ : Q (some (.long (JL (edg m)))) (edm m)) : CM G 7 mX12_digest [.ref (G.2.2.2 76)] m Q := by
  refine CM.of dkX12_digest (Or.inl rfl) [some _, none, none, none, none] rfl (Nat.le_of_ble_eq_true rfl) ?_
  have hM := h.1
  unfold edg edm edr at hQ
  refine x_ldc2 (i := 0) (pc' := 3) rfl rfl kX12_294 ?_
  refine x_lstore_n (L' := [some _, some _, none, none, none]) (i := 1) (pc' := 4) rfl rfl rfl rfl (by decide) rfl ?_
  refine x_iconst (i := 2) (pc' := 5) rfl rfl ?_
  refine x_istore_n (L' := [some _, some _, none, some _, none]) (i := 3) (pc' := 6) rfl rfl rfl rfl (by decide) rfl ?_
  skip
  refine up_ind0 (P := fun (j : Int) (x : Int) => BW G 7 mX12_digest Q 6 [some (.ref (G.2.2.2 76)), some (.long (JL (x))), none, some (.int (J (j))), none] [] m) (fun (j : Int) (x : Int) => 31 * x + tlm m j) (11) (0) (2287) (by omega) (fun j x hj0 hj hk => ?_) ?_
  · have htl := tlm_rg hM j
    refine x_iload_n (i := 4) (pc' := 7) rfl rfl rfl rfl ?_
    refine x_bipush (i := 5) (pc' := 9) rfl rfl (by decide) ?_
    refine x_icmpge (i := 6) (pc' := 12) (tgt := 31) rfl rfl (by decide) ⟨by omega, by omega⟩ ⟨by omega, by omega⟩ (fun c1 => by exfalso; omega) (fun c1 => ?_)
    refine x_ldc2 (i := 7) (pc' := 15) rfl rfl kX12_296 ?_
    refine x_lload_n (i := 8) (pc' := 16) rfl rfl rfl rfl ?_
    refine x_lmul (i := 9) (pc' := 17) rfl rfl ?_
    refine x_aload_n (i := 10) (pc' := 18) rfl rfl rfl rfl ?_
    refine x_iload_n (i := 11) (pc' := 19) rfl rfl rfl rfl ?_
    refine m_callV (i := 12) (pc' := 22) (av := [_]) (rest := [_]) rfl rfl (by decide) lX12_291 (sh76 G) rfl rfl rfl rfl rfl (Nat.le_of_ble_eq_true rfl) (Nat.le_refl _) (Nat.le_refl _) (s_X12_tells (by omega) ?_)
    dsimp only [psh]
    refine x_i2l (i := 13) (pc' := 23) rfl rfl ⟨by omega, by omega⟩ ?_
    refine x_ladd (i := 14) (pc' := 24) rfl rfl ?_
    refine x_lstore_n (L' := [some _, some _, none, some _, none]) (i := 15) (pc' := 25) rfl rfl rfl rfl (by decide) rfl ?_
    refine x_iinc (L' := [some _, some _, none, some _, none]) (i := 16) (pc' := 28) rfl rfl rfl rfl (by decide) rfl ?_
    refine x_goto (i := 17) (pc' := 6) rfl (by decide) ?_
    (first | exact hk | (refine AW.le ?_ hk; simp [lvle]; done) | ((repeat' split at hk) <;> first | exact hk | (refine AW.le ?_ hk; simp [lvle]; done) | (exfalso; omega)))
  · have e1 : it (fun (j : Int) (x : Int) => 31 * x + tlm m j) 0 (11 - 0 : Int).toNat 2287 = ed1 m 2287 := rfl
    rw [e1]
    generalize ed1 m 2287 = z at hQ ⊢
    refine x_iload_n (i := 4) (pc' := 7) rfl rfl rfl rfl ?_
    refine x_bipush (i := 5) (pc' := 9) rfl rfl (by decide) ?_
    refine x_icmpge (i := 6) (pc' := 12) (tgt := 31) rfl rfl (by decide) ⟨by omega, by omega⟩ ⟨by omega, by omega⟩ (fun c1 => ?_) (fun c1 => by exfalso; omega)
    refine x_iconst (i := 18) (pc' := 32) rfl rfl ?_
    refine x_istore_n (L' := [some _, some _, none, some _, none]) (i := 19) (pc' := 33) rfl rfl rfl rfl (by decide) rfl ?_
    exact ed_0 h hQ
