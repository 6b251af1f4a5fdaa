def nx2 (x : Mem) : Mem := nxm (nxm x)
def nx3 (x : Mem) : Mem := nxm (nx2 x)
def nx4 (x : Mem) : Mem := nxm (nx3 x)
def nx5 (x : Mem) : Mem := nxm (nx4 x)
def dre (c : Int) (y : Mem) (h p q f s : Int) : Int × Mem := if cns y h p q f s = 0 then (c + 1, adm y h p q f s) else (c, y)
def drd (x : Int × Mem) : Int × Mem := dre x.1 (nx5 x.2) (nxv x.2) (nxv (nxm x.2)) (nxv (nx2 x.2)) (nxv (nx3 x.2)) (nxv (nx4 x.2) % 4)
def DRI (x : Mem) : Prop := MR x ∧ NM x ∧ (0 ≤ x 76 5 ∧ x 76 5 < 2147483648)
theorem nxm_I {x : Mem} (h : DRI x) : DRI (nxm x) := by
  have hr : 0 ≤ rn (x 76 5) ∧ rn (x 76 5) < 2147483648 := (by unfold rn; omega)
  refine ⟨h.1.st (by omega), h.2.1, ?_⟩
  unfold nxm
  rw [stm_eq]
  exact hr
theorem nxv_le (x : Mem) : 0 ≤ nxv x ∧ nxv x ≤ 7 := by unfold nxv; omega
theorem cns_0 {m : Mem} {a b c d e : Int} (h : cns m a b c d e = 0) (hn : NM m) : m 77 0 < 16 := by
  have := hn.2
  unfold cns at h
  (repeat' split at h) <;> omega
theorem adm_I {m : Mem} (h : DRI m) (h16 : m 77 0 < 16) {a b c d e : Int} (ha : rg a) (hb : rg b) (hc : rg c) (hd : rg d) (he : rg e) : DRI (adm m a b c d e) := by
  obtain ⟨h1, h2, h3⟩ := h
  have n0 := h2.1
  refine ⟨(((((h1.st ha).st hb).st hc).st hd).st he).st (by omega), ?_, h3⟩
  unfold NM adm
  rw [stm_eq]
  omega
theorem drd_I {x : Int × Mem} (h : DRI x.2) : DRI (drd x).2 := by
  have h5 := nxm_I (nxm_I (nxm_I (nxm_I (nxm_I h))))
  have v1 := nxv_le x.2; have v2 := nxv_le (nxm x.2); have v3 := nxv_le (nx2 x.2); have v4 := nxv_le (nx3 x.2); have v5 := nxv_le (nx4 x.2)
  unfold drd dre
  split
  · next hc => exact adm_I h5 (cns_0 hc h5.2.1) (by omega) (by omega) (by omega) (by omega) (by omega)
  · exact h5
theorem cns_rg (m : Mem) (a b c d e : Int) : -4 ≤ cns m a b c d e ∧ cns m a b c d e ≤ 0 := by unfold cns; (repeat' split) <;> omega
def drs (y : Mem) (a b : Int) : Int × Mem := it (fun _ x => drd x) 0 b.toNat (0, stm y 76 5 a)
theorem dr_end {G : GG} {y : Mem} {Q : Option Value → Mem → Prop} {a b c j h p q f s : Int} (hy : DRI y) (h1 : rg h) (h2 : rg p) (h3 : rg q) (h4 : rg f) (h5 : rg s) (hk : BW G 4 mX12_draws Q 46 [some (.ref (G.2.2.2 76)), some (.int (J (a))), some (.int (J (b))), some (.int (J ((dre c y h p q f s).1))), some (.int (J (j + 1))), none, none, none, none, none] [] (dre c y h p q f s).2) : BW G 4 mX12_draws Q 84 [some (.ref (G.2.2.2 76)), some (.int (J (a))), some (.int (J (b))), some (.int (J (c))), some (.int (J (j))), some (.int (J (h))), some (.int (J (p))), some (.int (J (q))), some (.int (J (f))), some (.int (J (s)))] [] y := by
  have hcr := cns_rg y h p q f s
  unfold dre at hk
  by_cases hz : cns y h p q f s = 0
  · rw [if_pos hz] at hk
    refine x_aload_n (i := 46) (pc' := 85) rfl rfl rfl rfl ?_
    refine x_iload (i := 47) (pc' := 87) rfl rfl rfl ?_
    refine x_iload (i := 48) (pc' := 89) rfl rfl rfl ?_
    refine x_iload (i := 49) (pc' := 91) rfl rfl rfl ?_
    refine x_iload (i := 50) (pc' := 93) rfl rfl rfl ?_
    refine x_iload (i := 51) (pc' := 95) rfl rfl rfl ?_
    refine m_callV (i := 52) (pc' := 98) (av := [_, _, _, _, _]) (rest := []) rfl rfl (by decide) lX12_66 (sh76 G) rfl rfl rfl rfl rfl (Nat.le_of_ble_eq_true rfl) (Nat.le_refl _) (Nat.le_refl _) (s_X12_canSign hy.1 hy.2.1 h1 h2 h3 h4 h5 ?_)
    dsimp only [psh]
    refine x_ifne (i := 53) (pc' := 101) (tgt := 119) rfl rfl (by decide) ⟨by omega, by omega⟩ (fun e1 => by exfalso; omega) (fun e1 => ?_)
    refine x_aload_n (i := 54) (pc' := 102) rfl rfl rfl rfl ?_
    refine x_iload (i := 55) (pc' := 104) rfl rfl rfl ?_
    refine x_iload (i := 56) (pc' := 106) rfl rfl rfl ?_
    refine x_iload (i := 57) (pc' := 108) rfl rfl rfl ?_
    refine x_iload (i := 58) (pc' := 110) rfl rfl rfl ?_
    refine x_iload (i := 59) (pc' := 112) rfl rfl rfl ?_
    refine m_callV (i := 60) (pc' := 115) (av := [_, _, _, _, _]) (rest := []) rfl rfl (by decide) lX12_76 (sh76 G) rfl rfl rfl rfl rfl (Nat.le_of_ble_eq_true rfl) (Nat.le_refl _) (Nat.le_refl _) (s_X12_adds hy.2.1 (cns_0 hz hy.2.1) ?_)
    dsimp only [psh]
    refine x_pop (i := 61) (pc' := 116) rfl rfl rfl ?_
    refine x_iinc (L' := [some _, some _, some _, some _, some _, some _, some _, some _, some _, some _]) (i := 62) (pc' := 119) rfl rfl rfl rfl (by decide) rfl ?_
    refine x_iinc (L' := [some _, some _, some _, some _, some _, some _, some _, some _, some _, some _]) (i := 63) (pc' := 122) rfl rfl rfl rfl (by decide) rfl ?_
    refine x_goto (i := 64) (pc' := 46) rfl (by decide) ?_
    (refine AW.le ?_ hk; simp [lvle]; done)
  · rw [if_neg hz] at hk
    refine x_aload_n (i := 46) (pc' := 85) rfl rfl rfl rfl ?_
    refine x_iload (i := 47) (pc' := 87) rfl rfl rfl ?_
    refine x_iload (i := 48) (pc' := 89) rfl rfl rfl ?_
    refine x_iload (i := 49) (pc' := 91) rfl rfl rfl ?_
    refine x_iload (i := 50) (pc' := 93) rfl rfl rfl ?_
    refine x_iload (i := 51) (pc' := 95) rfl rfl rfl ?_
    refine m_callV (i := 52) (pc' := 98) (av := [_, _, _, _, _]) (rest := []) rfl rfl (by decide) lX12_66 (sh76 G) rfl rfl rfl rfl rfl (Nat.le_of_ble_eq_true rfl) (Nat.le_refl _) (Nat.le_refl _) (s_X12_canSign hy.1 hy.2.1 h1 h2 h3 h4 h5 ?_)
    dsimp only [psh]
    refine x_ifne (i := 53) (pc' := 101) (tgt := 119) rfl rfl (by decide) ⟨by omega, by omega⟩ (fun e1 => ?_) (fun e1 => by exfalso; omega)
    refine x_iinc (L' := [some _, some _, some _, some _, some _, some _, some _, some _, some _, some _]) (i := 63) (pc' := 122) rfl rfl rfl rfl (by decide) rfl ?_
    refine x_goto (i := 64) (pc' := 46) rfl (by decide) ?_
    (refine AW.le ?_ hk; simp [lvle]; done)
theorem dr_loop {G : GG} {y : Mem} {Q : Option Value → Mem → Prop} {a b : Int} (hb : 1 ≤ b ∧ b ≤ 16) (hy : DRI (stm y 76 5 a)) (hQ : Q (some (.int (J (drs y a b).1))) (drs y a b).2) : BW G 4 mX12_draws Q 46 [some (.ref (G.2.2.2 76)), some (.int (J (a))), some (.int (J (b))), some (.int (J (0))), some (.int (J (0))), none, none, none, none, none] [] (stm y 76 5 a) := by
  refine up_ind1 (P := fun (j : Int) (x : Int × Mem) => BW G 4 mX12_draws Q 46 [some (.ref (G.2.2.2 76)), some (.int (J (a))), some (.int (J (b))), some (.int (J (x.1))), some (.int (J (j))), none, none, none, none, none] [] x.2) (fun (j : Int) (x : Int × Mem) => drd x) (fun (j : Int) (x : Int × Mem) => DRI x.2) (b) (0) ((0, stm y 76 5 a)) (by omega) (hy) (fun j x hj0 hj hi => drd_I hi) (fun j x hj0 hj hi hk => ?_) (fun hi => ?_)
  · have i1 := nxm_I hi; have i2 : DRI (nx2 x.2) := nxm_I i1; have i3 : DRI (nx3 x.2) := nxm_I i2; have i4 : DRI (nx4 x.2) := nxm_I i3; have i5 : DRI (nx5 x.2) := nxm_I i4
    have v1 := nxv_le x.2; have v2 := nxv_le (nxm x.2); have v3 := nxv_le (nx2 x.2); have v4 := nxv_le (nx3 x.2); have v5 := nxv_le (nx4 x.2)
    refine x_iload (i := 26) (pc' := 48) rfl rfl rfl ?_
    refine x_iload_n (i := 27) (pc' := 49) rfl rfl rfl rfl ?_
    refine x_icmpge (i := 28) (pc' := 52) (tgt := 125) rfl rfl (by decide) ⟨by omega, by omega⟩ ⟨by omega, by omega⟩ (fun e1 => by exfalso; omega) (fun e1 => ?_)
    refine x_aload_n (i := 29) (pc' := 53) rfl rfl rfl rfl ?_
    refine m_callV (i := 30) (pc' := 56) (av := []) (rest := []) rfl rfl (by decide) lX12_117 (sh76 G) rfl rfl rfl rfl rfl (Nat.le_of_ble_eq_true rfl) (Nat.le_refl _) (Nat.le_refl _) (s_X12_next hi.2.2 ?_)
    dsimp only [psh]
    show BW G 4 mX12_draws Q 56 _ [.int (J (nxv (x.2)))] (nxm x.2)
    refine x_istore (L' := [some _, some _, some _, some _, some _, some _, none, none, none, none]) (i := 31) (pc' := 58) rfl rfl rfl (by decide) rfl ?_
    refine x_aload_n (i := 32) (pc' := 59) rfl rfl rfl rfl ?_
    refine m_callV (i := 33) (pc' := 62) (av := []) (rest := []) rfl rfl (by decide) lX12_117 (sh76 G) rfl rfl rfl rfl rfl (Nat.le_of_ble_eq_true rfl) (Nat.le_refl _) (Nat.le_refl _) (s_X12_next i1.2.2 ?_)
    dsimp only [psh]
    show BW G 4 mX12_draws Q 62 _ [.int (J (nxv (nxm x.2)))] (nx2 x.2)
    refine x_istore (L' := [some _, some _, some _, some _, some _, some _, some _, none, none, none]) (i := 34) (pc' := 64) rfl rfl rfl (by decide) rfl ?_
    refine x_aload_n (i := 35) (pc' := 65) rfl rfl rfl rfl ?_
    refine m_callV (i := 36) (pc' := 68) (av := []) (rest := []) rfl rfl (by decide) lX12_117 (sh76 G) rfl rfl rfl rfl rfl (Nat.le_of_ble_eq_true rfl) (Nat.le_refl _) (Nat.le_refl _) (s_X12_next i2.2.2 ?_)
    dsimp only [psh]
    show BW G 4 mX12_draws Q 68 _ [.int (J (nxv (nx2 x.2)))] (nx3 x.2)
    refine x_istore (L' := [some _, some _, some _, some _, some _, some _, some _, some _, none, none]) (i := 37) (pc' := 70) rfl rfl rfl (by decide) rfl ?_
    refine x_aload_n (i := 38) (pc' := 71) rfl rfl rfl rfl ?_
    refine m_callV (i := 39) (pc' := 74) (av := []) (rest := []) rfl rfl (by decide) lX12_117 (sh76 G) rfl rfl rfl rfl rfl (Nat.le_of_ble_eq_true rfl) (Nat.le_refl _) (Nat.le_refl _) (s_X12_next i3.2.2 ?_)
    dsimp only [psh]
    show BW G 4 mX12_draws Q 74 _ [.int (J (nxv (nx3 x.2)))] (nx4 x.2)
    refine x_istore (L' := [some _, some _, some _, some _, some _, some _, some _, some _, some _, none]) (i := 40) (pc' := 76) rfl rfl rfl (by decide) rfl ?_
    refine x_aload_n (i := 41) (pc' := 77) rfl rfl rfl rfl ?_
    refine m_callV (i := 42) (pc' := 80) (av := []) (rest := []) rfl rfl (by decide) lX12_117 (sh76 G) rfl rfl rfl rfl rfl (Nat.le_of_ble_eq_true rfl) (Nat.le_refl _) (Nat.le_refl _) (s_X12_next i4.2.2 ?_)
    dsimp only [psh]
    show BW G 4 mX12_draws Q 80 _ [.int (J (nxv (nx4 x.2)))] (nx5 x.2)
    refine x_iconst (i := 43) (pc' := 81) rfl rfl ?_
    refine x_irem (i := 44) (pc' := 82) rfl rfl ⟨by omega, by omega⟩ ⟨by omega, by omega⟩ (by omega) (by omega) ?_
    refine x_istore (L' := [some _, some _, some _, some _, some _, some _, some _, some _, some _, some _]) (i := 45) (pc' := 84) rfl rfl rfl (by decide) rfl ?_
    exact dr_end i5 (by omega) (by omega) (by omega) (by omega) (by omega) hk
  · skip
    refine x_iload (i := 26) (pc' := 48) rfl rfl rfl ?_
    refine x_iload_n (i := 27) (pc' := 49) rfl rfl rfl rfl ?_
    refine x_icmpge (i := 28) (pc' := 52) (tgt := 125) rfl rfl (by decide) ⟨by omega, by omega⟩ ⟨by omega, by omega⟩ (fun f1 => ?_) (fun f1 => by exfalso; omega)
    refine x_iload_n (i := 65) (pc' := 126) rfl rfl rfl rfl ?_
    exact m_ireturn (i := 66) rfl rfl (by rw [Int.sub_zero]; exact hQ)
