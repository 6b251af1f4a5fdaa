def grr (m : Mem) (d j x : Int) : Int := io x (if ia (x / 2 ^ j.toNat) 1 = 1 then nrf m j d else 0)
def grw (m : Mem) (d x : Int) : Int := it (fun j x => grr m d j x) 0 (m 77 0).toNat x
def grp (m : Mem) (k d : Int) : Int := it (fun _ x => grw m d x) 0 (m 77 0).toNat (1 * 2 ^ k.toNat)
theorem grr_le {m : Mem} (hn : NM m) {d j x : Int} (h : 0 ≤ x ∧ x < 65536) : 0 ≤ grr m d j x ∧ grr m d j x < 65536 := by
  have h1 := nrf_le m hn j d
  exact ⟨io_nn _ _, io_lt 16 h (by split <;> omega)⟩
theorem grw_le {m : Mem} (hn : NM m) {d x : Int} (h : 0 ≤ x ∧ x < 65536) : 0 ≤ grw m d x ∧ grw m d x < 65536 := it_I (I := fun x : Int => 0 ≤ x ∧ x < 65536) _ _ _ (fun i y _ _ hy => grr_le hn hy) h
theorem grp_le {m : Mem} (hn : NM m) {k d : Int} (hk : 0 ≤ k ∧ k ≤ 15) : 0 ≤ grp m k d ∧ grp m k d < 65536 := by
  have := pw16 (j := k) hk
  exact it_I (I := fun x : Int => 0 ≤ x ∧ x < 65536) _ _ _ (fun i y _ _ hy => grw_le hn hy) (by omega)
def gsr (m : Mem) (d k : Int) (x : (Int × Int) × Int) : (Int × Int) × Int := if ia (x.2 / 2 ^ k.toNat) 1 = 1 then x else ((x.1.1 + 1, if x.1.2 < ons (grp m k d) then ons (grp m k d) else x.1.2), io x.2 (grp m k d))
def gss (m : Mem) (d : Int) : (Int × Int) × Int := it (fun k x => gsr m d k x) 0 (m 77 0).toNat ((0, 0), 0)
def zs (m : Mem) (a j k : Int) (x : Int × Int) : Int × Int := if x.1 = -1 ∨ (a % 2 = 0 ∧ x.1 < btw m j k) ∨ (¬ a % 2 = 0 ∧ btw m j k < x.1) then (btw m j k, 16 * j + k) else x
def zr (m : Mem) (a j : Int) (x : Int × Int) : Int × Int := it (fun k x => zs m a j k x) (j + 1) (m 77 0 - (j + 1)).toNat x
def zp (m : Mem) (a : Int) : Int × Int := it (fun j x => zr m a j x) 0 (m 77 0).toNat (-1, -1)
theorem s_X12_group {G : GG} {m : Mem} {Q : Option Value → Mem → Prop} {a d : Int} (hM : MR m) (hn : NM m) (hv : PVs m) (hw : WTm m) (ha : 0 ≤ a ∧ a ≤ 15) (rd : rg d) (hQ : Q (some (.int (J (grp m a d)))) m) : CM G 5 mX12_group [.ref (G.2.2.2 76), .int (J (a)), .int (J (d))] m Q := by
  refine CM.of dkX12_group (Or.inl rfl) [some _, some _, some _, none, none, none] rfl (Nat.le_of_ble_eq_true rfl) ?_
  have hn0 := hn.1; have hn1 := hn.2
  have hp := pw16 (j := a) ha
  refine x_iconst (i := 0) (pc' := 1) rfl rfl ?_
  refine x_iload_n (i := 1) (pc' := 2) rfl rfl rfl rfl ?_
  refine x_ishl (i := 2) (pc' := 3) rfl rfl (by first | omega | (exact Int.mul_nonneg (by omega) (Int.le_of_lt (Int.pow_pos (by omega))))) (by first | omega | (exact Int.mul_nonneg (by omega) (Int.le_of_lt (Int.pow_pos (by omega))))) ?_
  refine x_istore_n (L' := [some _, some _, some _, some _, none, none]) (i := 3) (pc' := 4) rfl rfl rfl rfl (by decide) rfl ?_
  refine x_iconst (i := 4) (pc' := 5) rfl rfl ?_
  refine x_istore (L' := [some _, some _, some _, some _, some _, none]) (i := 5) (pc' := 7) rfl rfl rfl (by decide) rfl ?_
  skip
  refine up_ind1 (P := fun (i : Int) (x : Int) => BW G 5 mX12_group Q 7 [some (.ref (G.2.2.2 76)), some (.int (J (a))), some (.int (J (d))), some (.int (J (x))), some (.int (J (i))), none] [] m) (fun (i : Int) (x : Int) => grw m d x) (fun (i : Int) (x : Int) => 0 ≤ x ∧ x < 65536) (m 77 0) (0) (1 * 2 ^ a.toNat) (by omega) (by omega) (fun i x hj0 hj hi => grw_le hn hi) (fun i x hj0 hj hi hk => ?_) (fun hi => ?_)
  · skip
    refine x_iload (i := 6) (pc' := 9) rfl rfl rfl ?_
    refine x_aload_n (i := 7) (pc' := 10) rfl rfl rfl rfl ?_
    refine m_getf (i := 8) (pc' := 13) rfl rfl flX12_7 (sh76 G) rfl rfl ?_
    refine x_iconst (i := 9) (pc' := 14) rfl rfl ?_
    refine m_iald (i := 10) (pc' := 15) rfl rfl (sh77 G) (by decide) ⟨by omega, by omega⟩ ?_
    refine x_icmpge (i := 11) (pc' := 18) (tgt := 67) rfl rfl (by decide) ⟨by omega, by omega⟩ ⟨by omega, by omega⟩ (fun c1 => by exfalso; omega) (fun c1 => ?_)
    refine x_iconst (i := 12) (pc' := 19) rfl rfl ?_
    refine x_istore (L' := [some _, some _, some _, some _, some _, some _]) (i := 13) (pc' := 21) rfl rfl rfl (by decide) rfl ?_
    refine up_ind1 (P := fun (j : Int) (y : Int) => BW G 5 mX12_group Q 21 [some (.ref (G.2.2.2 76)), some (.int (J (a))), some (.int (J (d))), some (.int (J (y))), some (.int (J (i))), some (.int (J (j)))] [] m) (fun (j : Int) (y : Int) => grr m d j y) (fun (j : Int) (y : Int) => 0 ≤ y ∧ y < 65536) (m 77 0) (0) (x) (by omega) (hi) (fun j y hj02 hj2 hi2 => grr_le hn hi2) (fun j y hj02 hj2 hi2 hk2 => ?_) (fun hi2 => ?_)
    · have hnr := nrf_le m hn j d
      have hia := ia_le (y / 2 ^ j.toNat) 1
      refine x_iload (i := 14) (pc' := 23) rfl rfl rfl ?_
      refine x_aload_n (i := 15) (pc' := 24) rfl rfl rfl rfl ?_
      refine m_getf (i := 16) (pc' := 27) rfl rfl flX12_7 (sh76 G) rfl rfl ?_
      refine x_iconst (i := 17) (pc' := 28) rfl rfl ?_
      refine m_iald (i := 18) (pc' := 29) rfl rfl (sh77 G) (by decide) ⟨by omega, by omega⟩ ?_
      refine x_icmpge (i := 19) (pc' := 32) (tgt := 61) rfl rfl (by decide) (by (repeat' split) <;> omega) (by (repeat' split) <;> omega) (fun e1 => by exfalso; omega) (fun e1 => ?_)
      refine x_iload_n (i := 20) (pc' := 33) rfl rfl rfl rfl ?_
      refine x_iload_n (i := 21) (pc' := 34) rfl rfl rfl rfl ?_
      refine x_iload (i := 22) (pc' := 36) rfl rfl rfl ?_
      refine m_callS (i := 23) (pc' := 39) (av := [_, _]) (rest := [_]) rfl rfl (by decide) lX12_151 rfl rfl (Nat.le_of_ble_eq_true rfl) (Nat.le_refl _) (Nat.le_refl _) (s_X12_has (by omega) (by omega) ?_)
      dsimp only [psh]
      refine x_ifeq (i := 24) (pc' := 42) (tgt := 52) rfl rfl (by decide) (by (repeat' split) <;> omega) (fun e2 => ?_) (fun e2 => ?_)
      · skip
        refine x_iconst (i := 30) (pc' := 53) rfl rfl ?_
        refine x_ior (i := 31) (pc' := 54) rfl rfl (by omega) (by omega) ?_
        refine x_istore_n (L' := [some _, some _, some _, some _, some _, some _]) (i := 32) (pc' := 55) rfl rfl rfl rfl (by decide) rfl ?_
        refine x_iinc (L' := [some _, some _, some _, some _, some _, some _]) (i := 33) (pc' := 58) rfl rfl rfl rfl (by decide) rfl ?_
        refine x_goto (i := 34) (pc' := 21) rfl (by decide) ?_
        (unfold grr at hk2; (repeat' split at hk2) <;> (repeat' split at *) <;> first | (exfalso; omega; done) | exact hk2)
      · skip
        refine x_aload_n (i := 25) (pc' := 43) rfl rfl rfl rfl ?_
        refine x_iload (i := 26) (pc' := 45) rfl rfl rfl ?_
        refine x_iload_n (i := 27) (pc' := 46) rfl rfl rfl rfl ?_
        refine m_callV (i := 28) (pc' := 49) (av := [_, _]) (rest := [_]) rfl rfl (by decide) lX12_148 (sh76 G) rfl rfl rfl rfl rfl (Nat.le_of_ble_eq_true rfl) (Nat.le_refl _) (Nat.le_refl _) (s_X12_nearOf hM hn hv hw (by omega) rd ?_)
        dsimp only [psh]
        refine x_goto (i := 29) (pc' := 53) rfl (by decide) ?_
        refine x_ior (i := 31) (pc' := 54) rfl rfl (by omega) (by omega) ?_
        refine x_istore_n (L' := [some _, some _, some _, some _, some _, some _]) (i := 32) (pc' := 55) rfl rfl rfl rfl (by decide) rfl ?_
        refine x_iinc (L' := [some _, some _, some _, some _, some _, some _]) (i := 33) (pc' := 58) rfl rfl rfl rfl (by decide) rfl ?_
        refine x_goto (i := 34) (pc' := 21) rfl (by decide) ?_
        (unfold grr at hk2; (repeat' split at hk2) <;> (repeat' split at *) <;> first | (exfalso; omega; done) | exact hk2)
    · skip
      refine x_iload (i := 14) (pc' := 23) rfl rfl rfl ?_
      refine x_aload_n (i := 15) (pc' := 24) rfl rfl rfl rfl ?_
      refine m_getf (i := 16) (pc' := 27) rfl rfl flX12_7 (sh76 G) rfl rfl ?_
      refine x_iconst (i := 17) (pc' := 28) rfl rfl ?_
      refine m_iald (i := 18) (pc' := 29) rfl rfl (sh77 G) (by decide) ⟨by omega, by omega⟩ ?_
      refine x_icmpge (i := 19) (pc' := 32) (tgt := 61) rfl rfl (by decide) ⟨by omega, by omega⟩ ⟨by omega, by omega⟩ (fun f1 => ?_) (fun f1 => by exfalso; omega)
      refine x_iinc (L' := [some _, some _, some _, some _, some _, some _]) (i := 35) (pc' := 64) rfl rfl rfl rfl (by decide) rfl ?_
      refine x_goto (i := 36) (pc' := 7) rfl (by decide) ?_
      (unfold grw at hk; first | exact hk | (refine AW.le ?_ hk; simp [lvle]; done) | ((repeat' split at hk) <;> first | exact hk | (refine AW.le ?_ hk; simp [lvle]; done) | (exfalso; omega)))
  · skip
    refine x_iload (i := 6) (pc' := 9) rfl rfl rfl ?_
    refine x_aload_n (i := 7) (pc' := 10) rfl rfl rfl rfl ?_
    refine m_getf (i := 8) (pc' := 13) rfl rfl flX12_7 (sh76 G) rfl rfl ?_
    refine x_iconst (i := 9) (pc' := 14) rfl rfl ?_
    refine m_iald (i := 10) (pc' := 15) rfl rfl (sh77 G) (by decide) ⟨by omega, by omega⟩ ?_
    refine x_icmpge (i := 11) (pc' := 18) (tgt := 67) rfl rfl (by decide) ⟨by omega, by omega⟩ ⟨by omega, by omega⟩ (fun c1 => ?_) (fun c1 => by exfalso; omega)
    refine x_iload_n (i := 37) (pc' := 68) rfl rfl rfl rfl ?_
    exact m_ireturn (i := 38) rfl rfl (by rw [Int.sub_zero]; exact hQ)
theorem s_X12_groups {G : GG} {m : Mem} {Q : Option Value → Mem → Prop} {a b : Int} (h : GM m) (ra : rg a) (rb : rg b) (hQ : Q (some (.int (J (if (0 ≤ a ∧ a ≤ 99) ∧ (0 ≤ b ∧ b ≤ 1) then (if b = 0 then (gss m a).1.1 else (gss m a).1.2) else -2)))) (if (0 ≤ a ∧ a ≤ 99) ∧ (0 ≤ b ∧ b ≤ 1) then m else rfm m (-2))) : CM G 6 mX12_groups [.ref (G.2.2.2 76), .int (J (a)), .int (J (b))] m Q := by
  refine CM.of dkX12_groups (Or.inl rfl) [some _, some _, some _, none, none, none, none, none] rfl (Nat.le_of_ble_eq_true rfl) ?_
  obtain ⟨hM, ⟨hn, hc, hv, hst, hw, hwd, hpo⟩, hst5, hle, her⟩ := h
  have hn0 := hn.1; have hn1 := hn.2; have hc0 := hc.1; have hc1 := hc.2
  refine x_iload_n (i := 0) (pc' := 1) rfl rfl rfl rfl ?_
  refine x_i2l (i := 1) (pc' := 2) rfl rfl (by (repeat' split at *) <;> omega) ?_
  refine x_lconst (a := 0) (i := 2) (pc' := 3) rfl rfl rfl ?_
  refine x_ldc2 (i := 3) (pc' := 6) rfl rfl kX12_146 ?_
  refine m_callS (i := 4) (pc' := 9) (av := [_, _, _]) (rest := []) rfl rfl (by decide) lX12_42 rfl rfl (Nat.le_of_ble_eq_true rfl) (Nat.le_refl _) (Nat.le_refl _) (s_X12_in (by omega) (by omega) (by omega) ?_)
  dsimp only [psh]
  refine x_ifeq (i := 5) (pc' := 12) (tgt := 22) rfl rfl (by decide) (by (repeat' split at *) <;> omega) (fun c1 => ?_) (fun c1 => ?_)
  · skip
    refine x_aload_n (i := 12) (pc' := 23) rfl rfl rfl rfl ?_
    refine x_bipush (i := 13) (pc' := 25) rfl rfl (by decide) ?_
    refine m_callV (i := 14) (pc' := 28) (av := [_]) (rest := []) rfl rfl (by decide) lX12_69 (sh76 G) rfl rfl rfl rfl rfl (Nat.le_of_ble_eq_true rfl) (Nat.le_refl _) (Nat.le_refl _) (s_X12_refuses (by omega) ?_)
    dsimp only [psh]
    exact m_ireturn (i := 15) rfl rfl (by (repeat' split at hQ) <;> (repeat' split at *) <;> first | exact hQ | (exfalso; omega))
  · skip
    refine x_iload_n (i := 6) (pc' := 13) rfl rfl rfl rfl ?_
    refine x_i2l (i := 7) (pc' := 14) rfl rfl (by (repeat' split at *) <;> omega) ?_
    refine x_lconst (a := 0) (i := 8) (pc' := 15) rfl rfl rfl ?_
    refine x_lconst (a := 1) (i := 9) (pc' := 16) rfl rfl rfl ?_
    refine m_callS (i := 10) (pc' := 19) (av := [_, _, _]) (rest := []) rfl rfl (by decide) lX12_42 rfl rfl (Nat.le_of_ble_eq_true rfl) (Nat.le_refl _) (Nat.le_refl _) (s_X12_in (by omega) (by omega) (by omega) ?_)
    dsimp only [psh]
    refine x_ifne (i := 11) (pc' := 22) (tgt := 29) rfl rfl (by decide) (by (repeat' split at *) <;> omega) (fun c2 => ?_) (fun c2 => ?_)
    · skip
      refine x_iconst (i := 16) (pc' := 30) rfl rfl ?_
      refine x_istore_n (L' := [some _, some _, some _, some _, none, none, none, none]) (i := 17) (pc' := 31) rfl rfl rfl rfl (by decide) rfl ?_
      refine x_iconst (i := 18) (pc' := 32) rfl rfl ?_
      refine x_istore (L' := [some _, some _, some _, some _, some _, none, none, none]) (i := 19) (pc' := 34) rfl rfl rfl (by decide) rfl ?_
      refine x_iconst (i := 20) (pc' := 35) rfl rfl ?_
      refine x_istore (L' := [some _, some _, some _, some _, some _, some _, none, none]) (i := 21) (pc' := 37) rfl rfl rfl (by decide) rfl ?_
      refine x_iconst (i := 22) (pc' := 38) rfl rfl ?_
      refine x_istore (L' := [some _, some _, some _, some _, some _, some _, some _, none]) (i := 23) (pc' := 40) rfl rfl rfl (by decide) rfl ?_
      have hcc : (0 ≤ a ∧ a ≤ 99) ∧ (0 ≤ b ∧ b ≤ 1) := (by (repeat' split at *) <;> omega)
      rw [if_pos hcc, if_pos hcc] at hQ
      refine up_ind1 (P := fun (j : Int) (x : (Int × Int) × Int) => BW G 6 mX12_groups Q 40 [some (.ref (G.2.2.2 76)), some (.int (J (a))), some (.int (J (b))), some (.int (J (x.1.1))), some (.int (J (x.1.2))), some (.int (J (x.2))), some (.int (J (j))), none] [] m) (fun (j : Int) (x : (Int × Int) × Int) => gsr m a j x) (fun (j : Int) (x : (Int × Int) × Int) => (0 ≤ x.2 ∧ x.2 < 65536) ∧ (0 ≤ x.1.2 ∧ x.1.2 ≤ 16)) (m 77 0) (0) (((0, 0), 0)) (by omega) (by decide) (fun j x hj0 hj hi => by (have g1 := grp_le hn (k := j) (d := a) (by omega); have g2 := ons_le (grp m j a); have g3 := io_nn x.2 (grp m j a); have g4 := io_lt 16 hi.1 (b := grp m j a) (by omega); unfold gsr; split <;> first | exact hi | (refine ⟨⟨g3, by omega⟩, ?_⟩; show 0 ≤ (if x.1.2 < ons (grp m j a) then _ else _) ∧ (if x.1.2 < ons (grp m j a) then _ else _) ≤ 16; split <;> omega))) (fun j x hj0 hj hi hk => ?_) (fun hi => ?_)
      · have g1 := grp_le hn (k := j) (d := a) (by omega); have g2 := ons_le (grp m j a)
        have hia := ia_le (x.2 / 2 ^ j.toNat) 1
        refine x_iload (i := 24) (pc' := 42) rfl rfl rfl ?_
        refine x_aload_n (i := 25) (pc' := 43) rfl rfl rfl rfl ?_
        refine m_getf (i := 26) (pc' := 46) rfl rfl flX12_7 (sh76 G) rfl rfl ?_
        refine x_iconst (i := 27) (pc' := 47) rfl rfl ?_
        refine m_iald (i := 28) (pc' := 48) rfl rfl (sh77 G) (by decide) ⟨by omega, by omega⟩ ?_
        refine x_icmpge (i := 29) (pc' := 51) (tgt := 108) rfl rfl (by decide) (by (repeat' split) <;> omega) (by (repeat' split) <;> omega) (fun e1 => by exfalso; omega) (fun e1 => ?_)
        refine x_iload (i := 30) (pc' := 53) rfl rfl rfl ?_
        refine x_iload (i := 31) (pc' := 55) rfl rfl rfl ?_
        refine m_callS (i := 32) (pc' := 58) (av := [_, _]) (rest := []) rfl rfl (by decide) lX12_151 rfl rfl (Nat.le_of_ble_eq_true rfl) (Nat.le_refl _) (Nat.le_refl _) (s_X12_has (by omega) (by omega) ?_)
        dsimp only [psh]
        refine x_ifne (i := 33) (pc' := 61) (tgt := 102) rfl rfl (by decide) (by (repeat' split) <;> omega) (fun e2 => ?_) (fun e2 => ?_)
        · skip
          refine x_iinc (L' := [some _, some _, some _, some _, some _, some _, some _, none]) (i := 53) (pc' := 105) rfl rfl rfl rfl (by decide) rfl ?_
          refine x_goto (i := 54) (pc' := 40) rfl (by decide) ?_
          (unfold gsr at hk; (repeat' split at hk) <;> (repeat' split at *) <;> first | (exfalso; omega; done) | (refine AW.le ?_ hk; simp [lvle]; done))
        · skip
          refine x_aload_n (i := 34) (pc' := 62) rfl rfl rfl rfl ?_
          refine x_iload (i := 35) (pc' := 64) rfl rfl rfl ?_
          refine x_iload_n (i := 36) (pc' := 65) rfl rfl rfl rfl ?_
          refine m_callV (i := 37) (pc' := 68) (av := [_, _]) (rest := []) rfl rfl (by decide) lX12_154 (sh76 G) rfl rfl rfl rfl rfl (Nat.le_of_ble_eq_true rfl) (Nat.le_refl _) (Nat.le_refl _) (s_X12_group hM hn hv hw (by omega) ra ?_)
          dsimp only [psh]
          refine x_istore (L' := [some _, some _, some _, some _, some _, some _, some _, some _]) (i := 38) (pc' := 70) rfl rfl rfl (by decide) rfl ?_
          refine x_iload (i := 39) (pc' := 72) rfl rfl rfl ?_
          refine x_iload (i := 40) (pc' := 74) rfl rfl rfl ?_
          refine x_ior (i := 41) (pc' := 75) rfl rfl (by omega) (by omega) ?_
          refine x_istore (L' := [some _, some _, some _, some _, some _, some _, some _, some _]) (i := 42) (pc' := 77) rfl rfl rfl (by decide) rfl ?_
          refine x_iinc (L' := [some _, some _, some _, some _, some _, some _, some _, some _]) (i := 43) (pc' := 80) rfl rfl rfl rfl (by decide) rfl ?_
          refine x_iload (i := 44) (pc' := 82) rfl rfl rfl ?_
          refine m_callS (i := 45) (pc' := 85) (av := [_]) (rest := []) rfl rfl (by decide) lX12_121 rfl rfl (Nat.le_of_ble_eq_true rfl) (Nat.le_refl _) (Nat.le_refl _) (s_X12_ones (by omega) ?_)
          dsimp only [psh]
          refine x_iload (i := 46) (pc' := 87) rfl rfl rfl ?_
          refine x_icmple (i := 47) (pc' := 90) (tgt := 98) rfl rfl (by decide) (by (repeat' split) <;> omega) (by (repeat' split) <;> omega) (fun e3 => ?_) (fun e3 => ?_)
          · skip
            refine x_iload (i := 51) (pc' := 100) rfl rfl rfl ?_
            refine x_istore (L' := [some _, some _, some _, some _, some _, some _, some _, some _]) (i := 52) (pc' := 102) rfl rfl rfl (by decide) rfl ?_
            refine x_iinc (L' := [some _, some _, some _, some _, some _, some _, some _, some _]) (i := 53) (pc' := 105) rfl rfl rfl rfl (by decide) rfl ?_
            refine x_goto (i := 54) (pc' := 40) rfl (by decide) ?_
            (unfold gsr at hk; (repeat' split at hk) <;> (repeat' split at *) <;> first | (exfalso; omega; done) | (refine AW.le ?_ hk; simp [lvle]; done))
          · skip
            refine x_iload (i := 48) (pc' := 92) rfl rfl rfl ?_
            refine m_callS (i := 49) (pc' := 95) (av := [_]) (rest := []) rfl rfl (by decide) lX12_121 rfl rfl (Nat.le_of_ble_eq_true rfl) (Nat.le_refl _) (Nat.le_refl _) (s_X12_ones (by omega) ?_)
            dsimp only [psh]
            refine x_goto (i := 50) (pc' := 100) rfl (by decide) ?_
            refine x_istore (L' := [some _, some _, some _, some _, some _, some _, some _, some _]) (i := 52) (pc' := 102) rfl rfl rfl (by decide) rfl ?_
            refine x_iinc (L' := [some _, some _, some _, some _, some _, some _, some _, some _]) (i := 53) (pc' := 105) rfl rfl rfl rfl (by decide) rfl ?_
            refine x_goto (i := 54) (pc' := 40) rfl (by decide) ?_
            (unfold gsr at hk; (repeat' split at hk) <;> (repeat' split at *) <;> first | (exfalso; omega; done) | (refine AW.le ?_ hk; simp [lvle]; done))
      · skip
        refine x_iload (i := 24) (pc' := 42) rfl rfl rfl ?_
        refine x_aload_n (i := 25) (pc' := 43) rfl rfl rfl rfl ?_
        refine m_getf (i := 26) (pc' := 46) rfl rfl flX12_7 (sh76 G) rfl rfl ?_
        refine x_iconst (i := 27) (pc' := 47) rfl rfl ?_
        refine m_iald (i := 28) (pc' := 48) rfl rfl (sh77 G) (by decide) ⟨by omega, by omega⟩ ?_
        refine x_icmpge (i := 29) (pc' := 51) (tgt := 108) rfl rfl (by decide) ⟨by omega, by omega⟩ ⟨by omega, by omega⟩ (fun f1 => ?_) (fun f1 => by exfalso; omega)
        refine x_iload_n (i := 55) (pc' := 109) rfl rfl rfl rfl ?_
        refine x_ifne (i := 56) (pc' := 112) (tgt := 116) rfl rfl (by decide) ⟨by omega, by omega⟩ (fun f2 => ?_) (fun f2 => ?_)
        · skip
          refine x_iload (i := 59) (pc' := 118) rfl rfl rfl ?_
          exact m_ireturn (i := 60) rfl rfl (by (rw [Int.sub_zero]; (repeat' split at hQ) <;> first | (exfalso; omega; done) | exact hQ))
        · skip
          refine x_iload_n (i := 57) (pc' := 113) rfl rfl rfl rfl ?_
          refine x_goto (i := 58) (pc' := 118) rfl (by decide) ?_
          exact m_ireturn (i := 60) rfl rfl (by (rw [Int.sub_zero]; (repeat' split at hQ) <;> first | (exfalso; omega; done) | exact hQ))
    · skip
      refine x_aload_n (i := 12) (pc' := 23) rfl rfl rfl rfl ?_
      refine x_bipush (i := 13) (pc' := 25) rfl rfl (by decide) ?_
      refine m_callV (i := 14) (pc' := 28) (av := [_]) (rest := []) rfl rfl (by decide) lX12_69 (sh76 G) rfl rfl rfl rfl rfl (Nat.le_of_ble_eq_true rfl) (Nat.le_refl _) (Nat.le_refl _) (s_X12_refuses (by omega) ?_)
      dsimp only [psh]
      exact m_ireturn (i := 15) rfl rfl (by (repeat' split at hQ) <;> (repeat' split at *) <;> first | exact hQ | (exfalso; omega))
theorem zs_I {m : Mem} (hv : PVs m) (hw : WTm m) {a j k : Int} {x : Int × Int} (hj : 0 ≤ j ∧ j < m 77 0) (hk : 0 ≤ k ∧ k < m 77 0) (h : -1 ≤ x.1 ∧ x.1 ≤ 1000) : -1 ≤ (zs m a j k x).1 ∧ (zs m a j k x).1 ≤ 1000 := by
  have hd := btw_le (hv j hj.1 hj.2) (hv k hk.1 hk.2) hw
  unfold zs
  split
  · show -1 ≤ btw m j k ∧ btw m j k ≤ 1000; omega
  · exact h
theorem s_X12_span {G : GG} {m : Mem} {Q : Option Value → Mem → Prop} {a : Int} (h : GM m) (ra : rg a) (hQ : Q (some (.int (J (if 0 ≤ a ∧ a ≤ 3 then (if a < 2 then (zp m a).1 else (zp m a).2) else -2)))) (if 0 ≤ a ∧ a ≤ 3 then m else rfm m (-2))) : CM G 4 mX12_span [.ref (G.2.2.2 76), .int (J (a))] m Q := by
  refine CM.of dkX12_span (Or.inl rfl) [some _, some _, none, none, none, none, none] rfl (Nat.le_of_ble_eq_true rfl) ?_
  obtain ⟨hM, ⟨hn, hc, hv, hst, hw, hwd, hpo⟩, hst5, hle, her⟩ := h
  have hn0 := hn.1; have hn1 := hn.2; have hc0 := hc.1; have hc1 := hc.2
  refine x_iload_n (i := 0) (pc' := 1) rfl rfl rfl rfl ?_
  refine x_i2l (i := 1) (pc' := 2) rfl rfl (by (repeat' split at *) <;> omega) ?_
  refine x_lconst (a := 0) (i := 2) (pc' := 3) rfl rfl rfl ?_
  refine x_ldc2 (i := 3) (pc' := 6) rfl rfl kX12_60 ?_
  refine m_callS (i := 4) (pc' := 9) (av := [_, _, _]) (rest := []) rfl rfl (by decide) lX12_42 rfl rfl (Nat.le_of_ble_eq_true rfl) (Nat.le_refl _) (Nat.le_refl _) (s_X12_in (by omega) (by omega) (by omega) ?_)
  dsimp only [psh]
  refine x_ifne (i := 5) (pc' := 12) (tgt := 19) rfl rfl (by decide) (by (repeat' split at *) <;> omega) (fun c1 => ?_) (fun c1 => ?_)
  · skip
    refine x_iconst (i := 10) (pc' := 20) rfl rfl ?_
    refine x_istore_n (L' := [some _, some _, some _, none, none, none, none]) (i := 11) (pc' := 21) rfl rfl rfl rfl (by decide) rfl ?_
    refine x_iconst (i := 12) (pc' := 22) rfl rfl ?_
    refine x_istore_n (L' := [some _, some _, some _, some _, none, none, none]) (i := 13) (pc' := 23) rfl rfl rfl rfl (by decide) rfl ?_
    refine x_iconst (i := 14) (pc' := 24) rfl rfl ?_
    refine x_istore (L' := [some _, some _, some _, some _, some _, none, none]) (i := 15) (pc' := 26) rfl rfl rfl (by decide) rfl ?_
    have hcc : 0 ≤ a ∧ a ≤ 3 := (by (repeat' split at *) <;> omega)
    rw [if_pos hcc, if_pos hcc] at hQ
    refine up_ind1 (P := fun (j : Int) (x : Int × Int) => BW G 4 mX12_span Q 26 [some (.ref (G.2.2.2 76)), some (.int (J (a))), some (.int (J (x.1))), some (.int (J (x.2))), some (.int (J (j))), none, none] [] m) (fun (j : Int) (x : Int × Int) => zr m a j x) (fun (j : Int) (x : Int × Int) => -1 ≤ x.1 ∧ x.1 ≤ 1000) (m 77 0) (0) ((-1, -1)) (by omega) (by decide) (fun j x hj0 hj hi => it_I (I := fun x : Int × Int => -1 ≤ x.1 ∧ x.1 ≤ 1000) _ _ _ (fun i y h1 h2 h3 => zs_I hv hw (by omega) (by omega) h3) hi) (fun j x hj0 hj hi hk => ?_) (fun hi => ?_)
    · skip
      refine x_iload (i := 16) (pc' := 28) rfl rfl rfl ?_
      refine x_aload_n (i := 17) (pc' := 29) rfl rfl rfl rfl ?_
      refine m_getf (i := 18) (pc' := 32) rfl rfl flX12_7 (sh76 G) rfl rfl ?_
      refine x_iconst (i := 19) (pc' := 33) rfl rfl ?_
      refine m_iald (i := 20) (pc' := 34) rfl rfl (sh77 G) (by decide) ⟨by omega, by omega⟩ ?_
      refine x_icmpge (i := 21) (pc' := 37) (tgt := 114) rfl rfl (by decide) ⟨by omega, by omega⟩ ⟨by omega, by omega⟩ (fun g1 => by exfalso; omega) (fun g1 => ?_)
      refine x_iload (i := 22) (pc' := 39) rfl rfl rfl ?_
      refine x_iconst (i := 23) (pc' := 40) rfl rfl ?_
      refine x_iadd (i := 24) (pc' := 41) rfl rfl ?_
      refine x_istore (L' := [some _, some _, some _, some _, some _, some _, none]) (i := 25) (pc' := 43) rfl rfl rfl (by decide) rfl ?_
      refine up_ind1 (P := fun (k : Int) (y : Int × Int) => BW G 4 mX12_span Q 43 [some (.ref (G.2.2.2 76)), some (.int (J (a))), some (.int (J (y.1))), some (.int (J (y.2))), some (.int (J (j))), some (.int (J (k))), none] [] m) (fun (k : Int) (y : Int × Int) => zs m a j k y) (fun (k : Int) (y : Int × Int) => -1 ≤ y.1 ∧ y.1 ≤ 1000) (m 77 0) (j + 1) (x) (by omega) (hi) (fun k y hj02 hj2 hi2 => zs_I hv hw (by omega) (by omega) hi2) (fun k y hj02 hj2 hi2 hk2 => ?_) (fun hi2 => ?_)
      · have hd := btw_le (hv j (by omega) (by omega)) (hv k (by omega) (by omega)) hw
        refine x_iload (i := 26) (pc' := 45) rfl rfl rfl ?_
        refine x_aload_n (i := 27) (pc' := 46) rfl rfl rfl rfl ?_
        refine m_getf (i := 28) (pc' := 49) rfl rfl flX12_7 (sh76 G) rfl rfl ?_
        refine x_iconst (i := 29) (pc' := 50) rfl rfl ?_
        refine m_iald (i := 30) (pc' := 51) rfl rfl (sh77 G) (by decide) ⟨by omega, by omega⟩ ?_
        refine x_icmpge (i := 31) (pc' := 54) (tgt := 108) rfl rfl (by decide) ⟨by omega, by omega⟩ ⟨by omega, by omega⟩ (fun e1 => by exfalso; omega) (fun e1 => ?_)
        refine x_aload_n (i := 32) (pc' := 55) rfl rfl rfl rfl ?_
        refine x_iload (i := 33) (pc' := 57) rfl rfl rfl ?_
        refine x_iload (i := 34) (pc' := 59) rfl rfl rfl ?_
        refine m_callV (i := 35) (pc' := 62) (av := [_, _]) (rest := []) rfl rfl (by decide) lX12_134 (sh76 G) rfl rfl rfl rfl rfl (Nat.le_of_ble_eq_true rfl) (Nat.le_refl _) (Nat.le_refl _) (s_X12_between (by omega) (by omega) (hv j (by omega) (by omega)) (hv k (by omega) (by omega)) ?_)
        dsimp only [psh]
        refine x_istore (L' := [some _, some _, some _, some _, some _, some _, some _]) (i := 36) (pc' := 64) rfl rfl rfl (by decide) rfl ?_
        refine x_iload_n (i := 37) (pc' := 65) rfl rfl rfl rfl ?_
        refine x_iconst (i := 38) (pc' := 66) rfl rfl ?_
        refine x_icmpeq (i := 39) (pc' := 69) (tgt := 90) rfl rfl (by decide) ⟨by omega, by omega⟩ ⟨by omega, by omega⟩ (fun e2 => ?_) (fun e2 => ?_)
        · skip
          refine x_iload (i := 51) (pc' := 92) rfl rfl rfl ?_
          refine x_istore_n (L' := [some _, some _, some _, some _, some _, some _, some _]) (i := 52) (pc' := 93) rfl rfl rfl rfl (by decide) rfl ?_
          refine x_bipush (i := 53) (pc' := 95) rfl rfl (by decide) ?_
          refine x_iload (i := 54) (pc' := 97) rfl rfl rfl ?_
          refine x_imul (i := 55) (pc' := 98) rfl rfl ?_
          refine x_iload (i := 56) (pc' := 100) rfl rfl rfl ?_
          refine x_iadd (i := 57) (pc' := 101) rfl rfl ?_
          refine x_istore_n (L' := [some _, some _, some _, some _, some _, some _, some _]) (i := 58) (pc' := 102) rfl rfl rfl rfl (by decide) rfl ?_
          refine x_iinc (L' := [some _, some _, some _, some _, some _, some _, some _]) (i := 59) (pc' := 105) rfl rfl rfl rfl (by decide) rfl ?_
          refine x_goto (i := 60) (pc' := 43) rfl (by decide) ?_
          (unfold zs at hk2; first | exact hk2 | (refine AW.le ?_ hk2; simp [lvle]; done) | ((repeat' split at hk2) <;> first | exact hk2 | (refine AW.le ?_ hk2; simp [lvle]; done) | (exfalso; omega)))
        · skip
          refine x_iload_n (i := 40) (pc' := 70) rfl rfl rfl rfl ?_
          refine x_iconst (i := 41) (pc' := 71) rfl rfl ?_
          refine x_irem (i := 42) (pc' := 72) rfl rfl ⟨by omega, by omega⟩ ⟨by omega, by omega⟩ (by omega) (by omega) ?_
          refine x_ifne (i := 43) (pc' := 75) (tgt := 84) rfl rfl (by decide) ⟨by omega, by omega⟩ (fun e3 => ?_) (fun e3 => ?_)
          · skip
            refine x_iload (i := 48) (pc' := 86) rfl rfl rfl ?_
            refine x_iload_n (i := 49) (pc' := 87) rfl rfl rfl rfl ?_
            refine x_icmpge (i := 50) (pc' := 90) (tgt := 102) rfl rfl (by decide) ⟨by omega, by omega⟩ ⟨by omega, by omega⟩ (fun e4 => ?_) (fun e4 => ?_)
            · skip
              refine x_iinc (L' := [some _, some _, some _, some _, some _, some _, some _]) (i := 59) (pc' := 105) rfl rfl rfl rfl (by decide) rfl ?_
              refine x_goto (i := 60) (pc' := 43) rfl (by decide) ?_
              (unfold zs at hk2; first | exact hk2 | (refine AW.le ?_ hk2; simp [lvle]; done) | ((repeat' split at hk2) <;> first | exact hk2 | (refine AW.le ?_ hk2; simp [lvle]; done) | (exfalso; omega)))
            · skip
              refine x_iload (i := 51) (pc' := 92) rfl rfl rfl ?_
              refine x_istore_n (L' := [some _, some _, some _, some _, some _, some _, some _]) (i := 52) (pc' := 93) rfl rfl rfl rfl (by decide) rfl ?_
              refine x_bipush (i := 53) (pc' := 95) rfl rfl (by decide) ?_
              refine x_iload (i := 54) (pc' := 97) rfl rfl rfl ?_
              refine x_imul (i := 55) (pc' := 98) rfl rfl ?_
              refine x_iload (i := 56) (pc' := 100) rfl rfl rfl ?_
              refine x_iadd (i := 57) (pc' := 101) rfl rfl ?_
              refine x_istore_n (L' := [some _, some _, some _, some _, some _, some _, some _]) (i := 58) (pc' := 102) rfl rfl rfl rfl (by decide) rfl ?_
              refine x_iinc (L' := [some _, some _, some _, some _, some _, some _, some _]) (i := 59) (pc' := 105) rfl rfl rfl rfl (by decide) rfl ?_
              refine x_goto (i := 60) (pc' := 43) rfl (by decide) ?_
              (unfold zs at hk2; first | exact hk2 | (refine AW.le ?_ hk2; simp [lvle]; done) | ((repeat' split at hk2) <;> first | exact hk2 | (refine AW.le ?_ hk2; simp [lvle]; done) | (exfalso; omega)))
          · skip
            refine x_iload (i := 44) (pc' := 77) rfl rfl rfl ?_
            refine x_iload_n (i := 45) (pc' := 78) rfl rfl rfl rfl ?_
            refine x_icmple (i := 46) (pc' := 81) (tgt := 102) rfl rfl (by decide) ⟨by omega, by omega⟩ ⟨by omega, by omega⟩ (fun e5 => ?_) (fun e5 => ?_)
            · skip
              refine x_iinc (L' := [some _, some _, some _, some _, some _, some _, some _]) (i := 59) (pc' := 105) rfl rfl rfl rfl (by decide) rfl ?_
              refine x_goto (i := 60) (pc' := 43) rfl (by decide) ?_
              (unfold zs at hk2; first | exact hk2 | (refine AW.le ?_ hk2; simp [lvle]; done) | ((repeat' split at hk2) <;> first | exact hk2 | (refine AW.le ?_ hk2; simp [lvle]; done) | (exfalso; omega)))
            · skip
              refine x_goto (i := 47) (pc' := 90) rfl (by decide) ?_
              refine x_iload (i := 51) (pc' := 92) rfl rfl rfl ?_
              refine x_istore_n (L' := [some _, some _, some _, some _, some _, some _, some _]) (i := 52) (pc' := 93) rfl rfl rfl rfl (by decide) rfl ?_
              refine x_bipush (i := 53) (pc' := 95) rfl rfl (by decide) ?_
              refine x_iload (i := 54) (pc' := 97) rfl rfl rfl ?_
              refine x_imul (i := 55) (pc' := 98) rfl rfl ?_
              refine x_iload (i := 56) (pc' := 100) rfl rfl rfl ?_
              refine x_iadd (i := 57) (pc' := 101) rfl rfl ?_
              refine x_istore_n (L' := [some _, some _, some _, some _, some _, some _, some _]) (i := 58) (pc' := 102) rfl rfl rfl rfl (by decide) rfl ?_
              refine x_iinc (L' := [some _, some _, some _, some _, some _, some _, some _]) (i := 59) (pc' := 105) rfl rfl rfl rfl (by decide) rfl ?_
              refine x_goto (i := 60) (pc' := 43) rfl (by decide) ?_
              (unfold zs at hk2; first | exact hk2 | (refine AW.le ?_ hk2; simp [lvle]; done) | ((repeat' split at hk2) <;> first | exact hk2 | (refine AW.le ?_ hk2; simp [lvle]; done) | (exfalso; omega)))
      · skip
        refine x_iload (i := 26) (pc' := 45) rfl rfl rfl ?_
        refine x_aload_n (i := 27) (pc' := 46) rfl rfl rfl rfl ?_
        refine m_getf (i := 28) (pc' := 49) rfl rfl flX12_7 (sh76 G) rfl rfl ?_
        refine x_iconst (i := 29) (pc' := 50) rfl rfl ?_
        refine m_iald (i := 30) (pc' := 51) rfl rfl (sh77 G) (by decide) ⟨by omega, by omega⟩ ?_
        refine x_icmpge (i := 31) (pc' := 54) (tgt := 108) rfl rfl (by decide) ⟨by omega, by omega⟩ ⟨by omega, by omega⟩ (fun f1 => ?_) (fun f1 => by exfalso; omega)
        refine x_iinc (L' := [some _, some _, some _, some _, some _, some _, none]) (i := 61) (pc' := 111) rfl rfl rfl rfl (by decide) rfl ?_
        refine x_goto (i := 62) (pc' := 26) rfl (by decide) ?_
        (unfold zr at hk; first | exact hk | (refine AW.le ?_ hk; simp [lvle]; done) | ((repeat' split at hk) <;> first | exact hk | (refine AW.le ?_ hk; simp [lvle]; done) | (exfalso; omega)))
    · skip
      refine x_iload (i := 16) (pc' := 28) rfl rfl rfl ?_
      refine x_aload_n (i := 17) (pc' := 29) rfl rfl rfl rfl ?_
      refine m_getf (i := 18) (pc' := 32) rfl rfl flX12_7 (sh76 G) rfl rfl ?_
      refine x_iconst (i := 19) (pc' := 33) rfl rfl ?_
      refine m_iald (i := 20) (pc' := 34) rfl rfl (sh77 G) (by decide) ⟨by omega, by omega⟩ ?_
      refine x_icmpge (i := 21) (pc' := 37) (tgt := 114) rfl rfl (by decide) ⟨by omega, by omega⟩ ⟨by omega, by omega⟩ (fun h1 => ?_) (fun h1 => by exfalso; omega)
      refine x_iload_n (i := 63) (pc' := 115) rfl rfl rfl rfl ?_
      refine x_iconst (i := 64) (pc' := 116) rfl rfl ?_
      refine x_icmpge (i := 65) (pc' := 119) (tgt := 123) rfl rfl (by decide) ⟨by omega, by omega⟩ ⟨by omega, by omega⟩ (fun h2 => ?_) (fun h2 => ?_)
      · skip
        refine x_iload_n (i := 68) (pc' := 124) rfl rfl rfl rfl ?_
        exact m_ireturn (i := 69) rfl rfl (by (rw [Int.sub_zero]; (repeat' split at hQ) <;> first | (exfalso; omega; done) | exact hQ))
      · skip
        refine x_iload_n (i := 66) (pc' := 120) rfl rfl rfl rfl ?_
        refine x_goto (i := 67) (pc' := 124) rfl (by decide) ?_
        exact m_ireturn (i := 69) rfl rfl (by (rw [Int.sub_zero]; (repeat' split at hQ) <;> first | (exfalso; omega; done) | exact hQ))
  · skip
    refine x_aload_n (i := 6) (pc' := 13) rfl rfl rfl rfl ?_
    refine x_bipush (i := 7) (pc' := 15) rfl rfl (by decide) ?_
    refine m_callV (i := 8) (pc' := 18) (av := [_]) (rest := []) rfl rfl (by decide) lX12_69 (sh76 G) rfl rfl rfl rfl rfl (Nat.le_of_ble_eq_true rfl) (Nat.le_refl _) (Nat.le_refl _) (s_X12_refuses (by omega) ?_)
    dsimp only [psh]
    exact m_ireturn (i := 9) rfl rfl (by (repeat' split at hQ) <;> (repeat' split at *) <;> first | exact hQ | (exfalso; omega))
def csy (m : Mem) (k f t : Int) : Int := if (0 ≤ k ∧ k < m 77 0) ∧ (-1 ≤ f ∧ f ≤ 5) ∧ (-1 ≤ t ∧ t ≤ 5) then (if m 77 1 = 16 then -4 else 0) else -2
def sym (m : Mem) (k f t : Int) : Mem := stm (stm (stm (stm m 77 (82 + 3 * m 77 1) k) 77 (82 + 3 * m 77 1 + 1) f) 77 (82 + 3 * m 77 1 + 2) t) 77 1 (m 77 1 + 1)
def tlm (x : Mem) (w : Int) : Int := if 0 ≤ w ∧ w ≤ 2 then x 78 w else if w = 3 then x 76 4 else if w = 4 then x 77 0 else if w = 5 then x 77 1 else if w = 6 then x 76 1 else x 77 (130 + w - 7)
theorem s_X12_canSay {G : GG} {m : Mem} {Q : Option Value → Mem → Prop} {k f t : Int} (hn : NM m) (hc : CMd m) (h1 : rg k) (h2 : rg f) (h3 : rg t) (hQ : Q (some (.int (J (csy m k f t)))) m) : CM G 2 mX12_canSay [.ref (G.2.2.2 76), .int (J (k)), .int (J (f)), .int (J (t))] m Q := by
  refine CM.of dkX12_canSay (Or.inl rfl) [some _, some _, some _, some _] rfl (Nat.le_of_ble_eq_true rfl) ?_
  have hn0 := hn.1; have hn1 := hn.2
  have hc0 := hc.1; have hc1 := hc.2
  refine x_aload_n (i := 0) (pc' := 1) rfl rfl rfl rfl ?_
  refine x_iload_n (i := 1) (pc' := 2) rfl rfl rfl rfl ?_
  refine m_callV (i := 2) (pc' := 5) (av := [_]) (rest := []) rfl rfl (by decide) lX12_79 (sh76 G) rfl rfl rfl rfl rfl (Nat.le_of_ble_eq_true rfl) (Nat.le_refl _) (Nat.le_refl _) (s_X12_isSign hn h1 ?_)
  dsimp only [psh]
  refine x_ifeq (i := 3) (pc' := 8) (tgt := 36) rfl rfl (by decide) (by (repeat' split) <;> omega) (fun c1 => ?_) (fun c1 => ?_)
  · skip
    refine x_bipush (i := 16) (pc' := 38) rfl rfl (by decide) ?_
    refine x_goto (i := 17) (pc' := 58) rfl (by decide) ?_
    exact m_ireturn (i := 27) rfl rfl (by unfold csy at hQ; (repeat' split at hQ) <;> (repeat' split at *) <;> first | exact hQ | (exfalso; omega))
  · skip
    refine x_iload_n (i := 4) (pc' := 9) rfl rfl rfl rfl ?_
    refine x_i2l (i := 5) (pc' := 10) rfl rfl (by (repeat' split) <;> omega) ?_
    refine x_ldc2 (i := 6) (pc' := 13) rfl rfl kX12_137 ?_
    refine x_ldc2 (i := 7) (pc' := 16) rfl rfl kX12_93 ?_
    refine m_callS (i := 8) (pc' := 19) (av := [_, _, _]) (rest := []) rfl rfl (by decide) lX12_42 rfl rfl (Nat.le_of_ble_eq_true rfl) (Nat.le_refl _) (Nat.le_refl _) (s_X12_in (by omega) (by omega) (by omega) ?_)
    dsimp only [psh]
    refine x_ifeq (i := 9) (pc' := 22) (tgt := 36) rfl rfl (by decide) (by (repeat' split) <;> omega) (fun c2 => ?_) (fun c2 => ?_)
    · skip
      refine x_bipush (i := 16) (pc' := 38) rfl rfl (by decide) ?_
      refine x_goto (i := 17) (pc' := 58) rfl (by decide) ?_
      exact m_ireturn (i := 27) rfl rfl (by unfold csy at hQ; (repeat' split at hQ) <;> (repeat' split at *) <;> first | exact hQ | (exfalso; omega))
    · skip
      refine x_iload_n (i := 10) (pc' := 23) rfl rfl rfl rfl ?_
      refine x_i2l (i := 11) (pc' := 24) rfl rfl (by (repeat' split) <;> omega) ?_
      refine x_ldc2 (i := 12) (pc' := 27) rfl rfl kX12_137 ?_
      refine x_ldc2 (i := 13) (pc' := 30) rfl rfl kX12_93 ?_
      refine m_callS (i := 14) (pc' := 33) (av := [_, _, _]) (rest := []) rfl rfl (by decide) lX12_42 rfl rfl (Nat.le_of_ble_eq_true rfl) (Nat.le_refl _) (Nat.le_refl _) (s_X12_in (by omega) (by omega) (by omega) ?_)
      dsimp only [psh]
      refine x_ifne (i := 15) (pc' := 36) (tgt := 41) rfl rfl (by decide) (by (repeat' split) <;> omega) (fun c3 => ?_) (fun c3 => ?_)
      · skip
        refine x_aload_n (i := 18) (pc' := 42) rfl rfl rfl rfl ?_
        refine m_getf (i := 19) (pc' := 45) rfl rfl flX12_7 (sh76 G) rfl rfl ?_
        refine x_iconst (i := 20) (pc' := 46) rfl rfl ?_
        refine m_iald (i := 21) (pc' := 47) rfl rfl (sh77 G) (by decide) ⟨by omega, by omega⟩ ?_
        refine x_bipush (i := 22) (pc' := 49) rfl rfl (by decide) ?_
        refine x_icmpne (i := 23) (pc' := 52) (tgt := 57) rfl rfl (by decide) (by (repeat' split) <;> omega) (by (repeat' split) <;> omega) (fun c4 => ?_) (fun c4 => ?_)
        · skip
          refine x_iconst (i := 26) (pc' := 58) rfl rfl ?_
          exact m_ireturn (i := 27) rfl rfl (by unfold csy at hQ; (repeat' split at hQ) <;> (repeat' split at *) <;> first | exact hQ | (exfalso; omega))
        · skip
          refine x_bipush (i := 24) (pc' := 54) rfl rfl (by decide) ?_
          refine x_goto (i := 25) (pc' := 58) rfl (by decide) ?_
          exact m_ireturn (i := 27) rfl rfl (by unfold csy at hQ; (repeat' split at hQ) <;> (repeat' split at *) <;> first | exact hQ | (exfalso; omega))
      · skip
        refine x_bipush (i := 16) (pc' := 38) rfl rfl (by decide) ?_
        refine x_goto (i := 17) (pc' := 58) rfl (by decide) ?_
        exact m_ireturn (i := 27) rfl rfl (by unfold csy at hQ; (repeat' split at hQ) <;> (repeat' split at *) <;> first | exact hQ | (exfalso; omega))
theorem s_X12_says {G : GG} {m : Mem} {Q : Option Value → Mem → Prop} {k f t : Int} (hc : CMd m) (hc2 : m 77 1 < 16) (hQ : Q (some (.int (J (m 77 1)))) (sym m k f t)) : CM G 0 mX12_says [.ref (G.2.2.2 76), .int (J (k)), .int (J (f)), .int (J (t))] m Q := by
  refine CM.of dkX12_says (Or.inl rfl) [some _, some _, some _, some _, none] rfl (Nat.le_of_ble_eq_true rfl) ?_
  have hc0 := hc.1; have hc1 := hc.2
  refine x_bipush (i := 0) (pc' := 2) rfl rfl (by decide) ?_
  refine x_iconst (i := 1) (pc' := 3) rfl rfl ?_
  refine x_aload_n (i := 2) (pc' := 4) rfl rfl rfl rfl ?_
  refine m_getf (i := 3) (pc' := 7) rfl rfl flX12_7 (sh76 G) rfl rfl ?_
  refine x_iconst (i := 4) (pc' := 8) rfl rfl ?_
  refine m_iald (i := 5) (pc' := 9) rfl rfl (sh77 G) (by decide) ⟨by omega, by omega⟩ ?_
  refine x_imul (i := 6) (pc' := 10) rfl rfl ?_
  refine x_iadd (i := 7) (pc' := 11) rfl rfl ?_
  refine x_istore (L' := [some _, some _, some _, some _, some _]) (i := 8) (pc' := 13) rfl rfl rfl (by decide) rfl ?_
  refine x_aload_n (i := 9) (pc' := 14) rfl rfl rfl rfl ?_
  refine m_getf (i := 10) (pc' := 17) rfl rfl flX12_7 (sh76 G) rfl rfl ?_
  refine x_iload (i := 11) (pc' := 19) rfl rfl rfl ?_
  refine x_iload_n (i := 12) (pc' := 20) rfl rfl rfl rfl ?_
  refine m_iast (i := 13) (pc' := 21) rfl rfl (sh77 G) (by decide) ⟨by omega, by omega⟩ ?_
  refine x_aload_n (i := 14) (pc' := 22) rfl rfl rfl rfl ?_
  refine m_getf (i := 15) (pc' := 25) rfl rfl flX12_7 (sh76 G) rfl rfl ?_
  refine x_iload (i := 16) (pc' := 27) rfl rfl rfl ?_
  refine x_iconst (i := 17) (pc' := 28) rfl rfl ?_
  refine x_iadd (i := 18) (pc' := 29) rfl rfl ?_
  refine x_iload_n (i := 19) (pc' := 30) rfl rfl rfl rfl ?_
  refine m_iast (i := 20) (pc' := 31) rfl rfl (sh77 G) (by decide) ⟨by omega, by omega⟩ ?_
  refine x_aload_n (i := 21) (pc' := 32) rfl rfl rfl rfl ?_
  refine m_getf (i := 22) (pc' := 35) rfl rfl flX12_7 (sh76 G) rfl rfl ?_
  refine x_iload (i := 23) (pc' := 37) rfl rfl rfl ?_
  refine x_iconst (i := 24) (pc' := 38) rfl rfl ?_
  refine x_iadd (i := 25) (pc' := 39) rfl rfl ?_
  refine x_iload_n (i := 26) (pc' := 40) rfl rfl rfl rfl ?_
  refine m_iast (i := 27) (pc' := 41) rfl rfl (sh77 G) (by decide) ⟨by omega, by omega⟩ ?_
  refine x_aload_n (i := 28) (pc' := 42) rfl rfl rfl rfl ?_
  refine m_getf (i := 29) (pc' := 45) rfl rfl flX12_7 (sh76 G) rfl rfl ?_
  refine x_iconst (i := 30) (pc' := 46) rfl rfl ?_
  refine x_dup2 (i := 31) (pc' := 47) rfl rfl rfl rfl ?_
  refine m_iald (i := 32) (pc' := 48) rfl rfl (sh77 G) (by decide) ⟨by omega, by omega⟩ ?_
  rw [stm_ix _ _ _ (by omega), stm_ix _ _ _ (by omega), stm_ix _ _ _ (by omega)]
  refine x_iconst (i := 33) (pc' := 49) rfl rfl ?_
  refine x_iadd (i := 34) (pc' := 50) rfl rfl ?_
  refine m_iast (i := 35) (pc' := 51) rfl rfl (sh77 G) (by decide) ⟨by omega, by omega⟩ ?_
  refine x_aload_n (i := 36) (pc' := 52) rfl rfl rfl rfl ?_
  refine m_getf (i := 37) (pc' := 55) rfl rfl flX12_7 (sh76 G) rfl rfl ?_
  refine x_iconst (i := 38) (pc' := 56) rfl rfl ?_
  refine m_iald (i := 39) (pc' := 57) rfl rfl (sh77 G) (by decide) ⟨by omega, by omega⟩ ?_
  rw [stm_eq]
  refine x_iconst (i := 40) (pc' := 58) rfl rfl ?_
  refine x_isub (i := 41) (pc' := 59) rfl rfl ?_
  exact m_ireturn (i := 42) rfl rfl (by rw [show m 77 1 + 1 - 1 = m 77 1 by omega]; exact hQ)
theorem s_X12_clearsAll {G : GG} {m : Mem} {Q : Option Value → Mem → Prop}  (hQ : Q (some (.int (J (m 77 1)))) (stm m 77 1 0)) : CM G 0 mX12_clearsAll [.ref (G.2.2.2 76)] m Q := by
  refine CM.of dkX12_clearsAll (Or.inl rfl) [some _, none] rfl (Nat.le_of_ble_eq_true rfl) ?_
  refine x_aload_n (i := 0) (pc' := 1) rfl rfl rfl rfl ?_
  refine m_getf (i := 1) (pc' := 4) rfl rfl flX12_7 (sh76 G) rfl rfl ?_
  refine x_iconst (i := 2) (pc' := 5) rfl rfl ?_
  refine m_iald (i := 3) (pc' := 6) rfl rfl (sh77 G) (by decide) ⟨by omega, by omega⟩ ?_
  refine x_istore_n (L' := [some _, some _]) (i := 4) (pc' := 7) rfl rfl rfl rfl (by decide) rfl ?_
  refine x_aload_n (i := 5) (pc' := 8) rfl rfl rfl rfl ?_
  refine m_getf (i := 6) (pc' := 11) rfl rfl flX12_7 (sh76 G) rfl rfl ?_
  refine x_iconst (i := 7) (pc' := 12) rfl rfl ?_
  refine x_iconst (i := 8) (pc' := 13) rfl rfl ?_
  refine m_iast (i := 9) (pc' := 14) rfl rfl (sh77 G) (by decide) ⟨by omega, by omega⟩ ?_
  refine x_iload_n (i := 10) (pc' := 15) rfl rfl rfl rfl ?_
  exact m_ireturn (i := 11) rfl rfl (hQ)
theorem s_X12_tells {G : GG} {m : Mem} {Q : Option Value → Mem → Prop} {b : Int} (hb : 0 ≤ b ∧ b ≤ 10) (hQ : Q (some (.int (J (tlm m b)))) m) : CM G 0 mX12_tells [.ref (G.2.2.2 76), .int (J (b))] m Q := by
  refine CM.of dkX12_tells (Or.inl rfl) [some _, some _] rfl (Nat.le_of_ble_eq_true rfl) ?_
  refine x_iload_n (i := 0) (pc' := 1) rfl rfl rfl rfl ?_
  rcases (by omega : b = 0 ∨ b = 1 ∨ b = 2 ∨ b = 3 ∨ b = 4 ∨ b = 5 ∨ b = 6 ∨ (b < 0 ∨ 6 < b)) with c1 | c1 | c1 | c1 | c1 | c1 | c1 | c1
  · first | (exfalso; omega; done) | skip
    all_goals (
      refine x_tableIn (i := 1) (v := 0) (off := 43) (tgt := 44) rfl c1 ⟨by decide, by decide⟩ (by decide) (by decide) rfl (by decide) ?_
      refine x_aload_n (i := 2) (pc' := 45) rfl rfl rfl rfl ?_
      refine m_getf (i := 3) (pc' := 48) rfl rfl flX12_13 (sh76 G) rfl rfl ?_
      refine x_iload_n (i := 4) (pc' := 49) rfl rfl rfl rfl ?_
      refine m_iald (i := 5) (pc' := 50) rfl rfl (sh78 G) (by decide) ⟨by omega, by omega⟩ ?_
      exact m_ireturn (i := 6) rfl rfl (by unfold tlm at hQ; (repeat' split at hQ) <;> first | exact hQ | (exfalso; omega))
      skip)
  · first | (exfalso; omega; done) | skip
    all_goals (
      refine x_tableIn (i := 1) (v := 1) (off := 43) (tgt := 44) rfl c1 ⟨by decide, by decide⟩ (by decide) (by decide) rfl (by decide) ?_
      refine x_aload_n (i := 2) (pc' := 45) rfl rfl rfl rfl ?_
      refine m_getf (i := 3) (pc' := 48) rfl rfl flX12_13 (sh76 G) rfl rfl ?_
      refine x_iload_n (i := 4) (pc' := 49) rfl rfl rfl rfl ?_
      refine m_iald (i := 5) (pc' := 50) rfl rfl (sh78 G) (by decide) ⟨by omega, by omega⟩ ?_
      exact m_ireturn (i := 6) rfl rfl (by unfold tlm at hQ; (repeat' split at hQ) <;> first | exact hQ | (exfalso; omega))
      skip)
  · first | (exfalso; omega; done) | skip
    all_goals (
      refine x_tableIn (i := 1) (v := 2) (off := 43) (tgt := 44) rfl c1 ⟨by decide, by decide⟩ (by decide) (by decide) rfl (by decide) ?_
      refine x_aload_n (i := 2) (pc' := 45) rfl rfl rfl rfl ?_
      refine m_getf (i := 3) (pc' := 48) rfl rfl flX12_13 (sh76 G) rfl rfl ?_
      refine x_iload_n (i := 4) (pc' := 49) rfl rfl rfl rfl ?_
      refine m_iald (i := 5) (pc' := 50) rfl rfl (sh78 G) (by decide) ⟨by omega, by omega⟩ ?_
      exact m_ireturn (i := 6) rfl rfl (by unfold tlm at hQ; (repeat' split at hQ) <;> first | exact hQ | (exfalso; omega))
      skip)
  · first | (exfalso; omega; done) | skip
    all_goals (
      refine x_tableIn (i := 1) (v := 3) (off := 50) (tgt := 51) rfl c1 ⟨by decide, by decide⟩ (by decide) (by decide) rfl (by decide) ?_
      refine x_aload_n (i := 7) (pc' := 52) rfl rfl rfl rfl ?_
      refine m_getf (i := 8) (pc' := 55) rfl rfl flX12_251 (sh76 G) rfl rfl ?_
      exact m_ireturn (i := 9) rfl rfl (by unfold tlm at hQ; (repeat' split at hQ) <;> first | exact hQ | (exfalso; omega))
      skip)
  · first | (exfalso; omega; done) | skip
    all_goals (
      refine x_tableIn (i := 1) (v := 4) (off := 55) (tgt := 56) rfl c1 ⟨by decide, by decide⟩ (by decide) (by decide) rfl (by decide) ?_
      refine x_aload_n (i := 10) (pc' := 57) rfl rfl rfl rfl ?_
      refine m_getf (i := 11) (pc' := 60) rfl rfl flX12_7 (sh76 G) rfl rfl ?_
      refine x_iconst (i := 12) (pc' := 61) rfl rfl ?_
      refine m_iald (i := 13) (pc' := 62) rfl rfl (sh77 G) (by decide) ⟨by omega, by omega⟩ ?_
      exact m_ireturn (i := 14) rfl rfl (by unfold tlm at hQ; (repeat' split at hQ) <;> first | exact hQ | (exfalso; omega))
      skip)
  · first | (exfalso; omega; done) | skip
    all_goals (
      refine x_tableIn (i := 1) (v := 5) (off := 62) (tgt := 63) rfl c1 ⟨by decide, by decide⟩ (by decide) (by decide) rfl (by decide) ?_
      refine x_aload_n (i := 15) (pc' := 64) rfl rfl rfl rfl ?_
      refine m_getf (i := 16) (pc' := 67) rfl rfl flX12_7 (sh76 G) rfl rfl ?_
      refine x_iconst (i := 17) (pc' := 68) rfl rfl ?_
      refine m_iald (i := 18) (pc' := 69) rfl rfl (sh77 G) (by decide) ⟨by omega, by omega⟩ ?_
      exact m_ireturn (i := 19) rfl rfl (by unfold tlm at hQ; (repeat' split at hQ) <;> first | exact hQ | (exfalso; omega))
      skip)
  · first | (exfalso; omega; done) | skip
    all_goals (
      refine x_tableIn (i := 1) (v := 6) (off := 69) (tgt := 70) rfl c1 ⟨by decide, by decide⟩ (by decide) (by decide) rfl (by decide) ?_
      refine x_aload_n (i := 20) (pc' := 71) rfl rfl rfl rfl ?_
      refine m_getf (i := 21) (pc' := 74) rfl rfl flX12_34 (sh76 G) rfl rfl ?_
      exact m_ireturn (i := 22) rfl rfl (by unfold tlm at hQ; (repeat' split at hQ) <;> first | exact hQ | (exfalso; omega))
      skip)
  · first | (exfalso; omega; done) | skip
    all_goals (
      refine x_tableOut (i := 1) (tgt := 75) rfl ⟨by omega, by omega⟩ c1 (by decide) ?_
      refine x_aload_n (i := 23) (pc' := 76) rfl rfl rfl rfl ?_
      refine m_getf (i := 24) (pc' := 79) rfl rfl flX12_7 (sh76 G) rfl rfl ?_
      refine x_sipush (i := 25) (pc' := 82) rfl rfl (by decide) ?_
      refine x_iload_n (i := 26) (pc' := 83) rfl rfl rfl rfl ?_
      refine x_iadd (i := 27) (pc' := 84) rfl rfl ?_
      refine x_bipush (i := 28) (pc' := 86) rfl rfl (by decide) ?_
      refine x_isub (i := 29) (pc' := 87) rfl rfl ?_
      refine m_iald (i := 30) (pc' := 88) rfl rfl (sh77 G) (by decide) ⟨by omega, by omega⟩ ?_
      exact m_ireturn (i := 31) rfl rfl (by unfold tlm at hQ; (repeat' split at hQ) <;> first | exact hQ | (exfalso; omega))
      skip)
theorem s_X12_told {G : GG} {m : Mem} {Q : Option Value → Mem → Prop} {a : Int} (h : GM m) (ra : rg a) (hQ : Q (some (.int (J (if 0 ≤ a ∧ a ≤ 10 then (tlm m a) else -2)))) (if 0 ≤ a ∧ a ≤ 10 then (m) else rfm m (-2))) : CM G 1 mX12_told [.ref (G.2.2.2 76), .int (J (a))] m Q := by
  refine CM.of dkX12_told (Or.inl rfl) [some _, some _] rfl (Nat.le_of_ble_eq_true rfl) ?_
  obtain ⟨hM, ⟨hn, hc, hv, hst, hw, hwd, hpo⟩, hst5, hle, her⟩ := h
  have hn0 := hn.1; have hn1 := hn.2; have hc0 := hc.1; have hc1 := hc.2
  refine x_iload_n (i := 0) (pc' := 1) rfl rfl rfl rfl ?_
  refine x_i2l (i := 1) (pc' := 2) rfl rfl (by (repeat' split at *) <;> omega) ?_
  refine x_lconst (a := 0) (i := 2) (pc' := 3) rfl rfl rfl ?_
  refine x_ldc2 (i := 3) (pc' := 6) rfl rfl kX12_289 ?_
  refine m_callS (i := 4) (pc' := 9) (av := [_, _, _]) (rest := []) rfl rfl (by decide) lX12_42 rfl rfl (Nat.le_of_ble_eq_true rfl) (Nat.le_refl _) (Nat.le_refl _) (s_X12_in (by omega) (by omega) (by omega) ?_)
  dsimp only [psh]
  refine x_ifeq (i := 5) (pc' := 12) (tgt := 20) rfl rfl (by decide) (by (repeat' split at *) <;> omega) (fun c1 => ?_) (fun c1 => ?_)
  · skip
    refine x_aload_n (i := 10) (pc' := 21) rfl rfl rfl rfl ?_
    refine x_bipush (i := 11) (pc' := 23) rfl rfl (by decide) ?_
    refine m_callV (i := 12) (pc' := 26) (av := [_]) (rest := []) rfl rfl (by decide) lX12_69 (sh76 G) rfl rfl rfl rfl rfl (Nat.le_of_ble_eq_true rfl) (Nat.le_refl _) (Nat.le_refl _) (s_X12_refuses (by omega) ?_)
    dsimp only [psh]
    exact m_ireturn (i := 13) rfl rfl (by (repeat' split at hQ) <;> (repeat' split at *) <;> first | exact hQ | (exfalso; omega))
  · skip
    refine x_aload_n (i := 6) (pc' := 13) rfl rfl rfl rfl ?_
    refine x_iload_n (i := 7) (pc' := 14) rfl rfl rfl rfl ?_
    refine m_callV (i := 8) (pc' := 17) (av := [_]) (rest := []) rfl rfl (by decide) lX12_291 (sh76 G) rfl rfl rfl rfl rfl (Nat.le_of_ble_eq_true rfl) (Nat.le_refl _) (Nat.le_refl _) (s_X12_tells (by (repeat' split at *) <;> omega) ?_)
    dsimp only [psh]
    refine x_goto (i := 9) (pc' := 26) rfl (by decide) ?_
    exact m_ireturn (i := 13) rfl rfl (by (repeat' split at hQ) <;> (repeat' split at *) <;> first | exact hQ | (exfalso; omega))
theorem s_X12_type {G : GG} {m : Mem} {Q : Option Value → Mem → Prop} {a : Int} (h : GM m) (ra : rg a) (hQ : Q (some (.int (J (if 0 ≤ a ∧ a ≤ 127 then (if m 76 4 = 120 then -4 else m 76 4 + 1) else -2)))) (if 0 ≤ a ∧ a ≤ 127 then (if m 76 4 = 120 then rfm m (-4) else stm (stm m 79 (m 76 4) a) 76 4 (m 76 4 + 1)) else rfm m (-2))) : CM G 1 mX12_type [.ref (G.2.2.2 76), .int (J (a))] m Q := by
  refine CM.of dkX12_type (Or.inl rfl) [some _, some _] rfl (Nat.le_of_ble_eq_true rfl) ?_
  obtain ⟨hM, ⟨hn, hc, hv, hst, hw, hwd, hpo⟩, hst5, hle, her⟩ := h
  have hn0 := hn.1; have hn1 := hn.2; have hc0 := hc.1; have hc1 := hc.2
  refine x_iload_n (i := 0) (pc' := 1) rfl rfl rfl rfl ?_
  refine x_i2l (i := 1) (pc' := 2) rfl rfl (by (repeat' split at *) <;> omega) ?_
  refine x_lconst (a := 0) (i := 2) (pc' := 3) rfl rfl rfl ?_
  refine x_ldc2 (i := 3) (pc' := 6) rfl rfl kX12_249 ?_
  refine m_callS (i := 4) (pc' := 9) (av := [_, _, _]) (rest := []) rfl rfl (by decide) lX12_42 rfl rfl (Nat.le_of_ble_eq_true rfl) (Nat.le_refl _) (Nat.le_refl _) (s_X12_in (by omega) (by omega) (by omega) ?_)
  dsimp only [psh]
  refine x_ifne (i := 5) (pc' := 12) (tgt := 19) rfl rfl (by decide) (by (repeat' split at *) <;> omega) (fun c1 => ?_) (fun c1 => ?_)
  · skip
    refine x_aload_n (i := 10) (pc' := 20) rfl rfl rfl rfl ?_
    refine m_getf (i := 11) (pc' := 23) rfl rfl flX12_251 (sh76 G) rfl rfl ?_
    refine x_bipush (i := 12) (pc' := 25) rfl rfl (by decide) ?_
    refine x_icmpne (i := 13) (pc' := 28) (tgt := 35) rfl rfl (by decide) (by (repeat' split at *) <;> omega) (by (repeat' split at *) <;> omega) (fun c2 => ?_) (fun c2 => ?_)
    · skip
      refine x_aload_n (i := 18) (pc' := 36) rfl rfl rfl rfl ?_
      refine m_getf (i := 19) (pc' := 39) rfl rfl flX12_16 (sh76 G) rfl rfl ?_
      refine x_aload_n (i := 20) (pc' := 40) rfl rfl rfl rfl ?_
      refine m_getf (i := 21) (pc' := 43) rfl rfl flX12_251 (sh76 G) rfl rfl ?_
      refine x_iload_n (i := 22) (pc' := 44) rfl rfl rfl rfl ?_
      refine m_iast (i := 23) (pc' := 45) rfl rfl (sh79 G) (by decide) ⟨by (repeat' split at *) <;> omega, by (repeat' split at *) <;> omega⟩ ?_
      refine x_aload_n (i := 24) (pc' := 46) rfl rfl rfl rfl ?_
      refine x_dup (i := 25) (pc' := 47) rfl rfl rfl ?_
      refine m_getf (i := 26) (pc' := 50) rfl rfl flX12_251 (sh76 G) rfl rfl ?_
      refine x_iconst (i := 27) (pc' := 51) rfl rfl ?_
      refine x_iadd (i := 28) (pc' := 52) rfl rfl ?_
      refine m_putf (kz := 4) (i := 29) (pc' := 55) rfl rfl flX12_251 (sh76 G) (fun _ => rfl) rfl (Nat.le_of_ble_eq_true rfl) rfl rfl ?_
      refine x_aload_n (i := 30) (pc' := 56) rfl rfl rfl rfl ?_
      refine m_getf (i := 31) (pc' := 59) rfl rfl flX12_251 (sh76 G) rfl rfl ?_
      exact m_ireturn (i := 32) rfl rfl (by (repeat' split at hQ) <;> (repeat' split at *) <;> first | (exfalso; omega; done) | exact hQ | (rw [stm_eq]; exact hQ))
    · skip
      refine x_aload_n (i := 14) (pc' := 29) rfl rfl rfl rfl ?_
      refine x_bipush (i := 15) (pc' := 31) rfl rfl (by decide) ?_
      refine m_callV (i := 16) (pc' := 34) (av := [_]) (rest := []) rfl rfl (by decide) lX12_69 (sh76 G) rfl rfl rfl rfl rfl (Nat.le_of_ble_eq_true rfl) (Nat.le_refl _) (Nat.le_refl _) (s_X12_refuses (by omega) ?_)
      dsimp only [psh]
      exact m_ireturn (i := 17) rfl rfl (by (repeat' split at hQ) <;> (repeat' split at *) <;> first | (exfalso; omega; done) | exact hQ | (rw [stm_eq]; exact hQ))
  · skip
    refine x_aload_n (i := 6) (pc' := 13) rfl rfl rfl rfl ?_
    refine x_bipush (i := 7) (pc' := 15) rfl rfl (by decide) ?_
    refine m_callV (i := 8) (pc' := 18) (av := [_]) (rest := []) rfl rfl (by decide) lX12_69 (sh76 G) rfl rfl rfl rfl rfl (Nat.le_of_ble_eq_true rfl) (Nat.le_refl _) (Nat.le_refl _) (s_X12_refuses (by omega) ?_)
    dsimp only [psh]
    exact m_ireturn (i := 9) rfl rfl (by (repeat' split at hQ) <;> (repeat' split at *) <;> first | (exfalso; omega; done) | exact hQ | (rw [stm_eq]; exact hQ))
theorem s_X12_clear {G : GG} {m : Mem} {Q : Option Value → Mem → Prop}  (hQ : Q (some (.int (J (m 76 4)))) (stm m 76 4 0)) : CM G 0 mX12_clear [.ref (G.2.2.2 76)] m Q := by
  refine CM.of dkX12_clear (Or.inl rfl) [some _, none] rfl (Nat.le_of_ble_eq_true rfl) ?_
  refine x_aload_n (i := 0) (pc' := 1) rfl rfl rfl rfl ?_
  refine m_getf (i := 1) (pc' := 4) rfl rfl flX12_251 (sh76 G) rfl rfl ?_
  refine x_istore_n (L' := [some _, some _]) (i := 2) (pc' := 5) rfl rfl rfl rfl (by decide) rfl ?_
  refine x_aload_n (i := 3) (pc' := 6) rfl rfl rfl rfl ?_
  refine x_iconst (i := 4) (pc' := 7) rfl rfl ?_
  refine m_putf (kz := 4) (i := 5) (pc' := 10) rfl rfl flX12_251 (sh76 G) (fun _ => rfl) rfl (Nat.le_of_ble_eq_true rfl) rfl rfl ?_
  refine x_iload_n (i := 6) (pc' := 11) rfl rfl rfl rfl ?_
  exact m_ireturn (i := 7) rfl rfl (hQ)
