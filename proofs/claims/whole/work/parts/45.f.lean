def sor (m : Mem) (i k x : Int) : Int := x + (if clm m k = clm m i ∧ rkm m i < rkm m k then 1 else 0)
def sow (m : Mem) (i x : Int) : Int := it (fun k x => sor m i k x) 0 i.toNat x
def soa (m : Mem) : Int := it (fun i x => sow m i x) 0 (m 77 1).toNat 0
def odr (m : Mem) (cl cut i x : Int) : Int := x + (if clm m i = cl ∧ (rkm m i = 2 ∨ (i < cut ∧ rkm m i = 0) ∨ (¬ i < cut ∧ rkm m i = 1)) then 1 else 0)
def odi (m : Mem) (cl cut : Int) : Int := it (fun i x => odr m cl cut i x) 0 (m 77 1).toNat 0
def odd (m : Mem) (cl : Int) : Int := it (fun cut x => if x < odi m cl cut then odi m cl cut else x) 0 (m 77 1 + 1).toNat 0
def cls (m : Mem) : Int := if m 77 1 = 0 then 0 else clm m (m 77 1 - 1) + 1
def mvd (m : Mem) : Int := m 77 1 - it (fun cl x => x + odd m cl) 0 (cls m).toNat 0
def vna (m : Mem) : Int := it (fun i x => x + (if vnm m i = 0 then 0 else 1)) 0 (m 77 1).toNat 0
def spr1 (m : Mem) (i w x : Int) : Int := io x (if m 77 (82 + 3 * i + w) = -1 then 0 else 1 * 2 ^ (m 77 (82 + 3 * i + w)).toNat)
def spw (m : Mem) (i x : Int) : Int := it (fun w x => spr1 m i w x) 1 2 x
def spa (m : Mem) : Int := it (fun i x => spw m i x) 0 (m 77 1).toNat 0
def wyr (m : Mem) (k : Int) (x : Int × Int) : Int × Int := if m 77 (82 + 3 * (k / 2) + (1 + k % 2)) = -1 then x else (x.1 + (if x.2 = -1 then 0 else ab (m 80 x.2 - m 80 (m 77 (82 + 3 * (k / 2) + (1 + k % 2))))), m 77 (82 + 3 * (k / 2) + (1 + k % 2)))
def way_ (m : Mem) : Int := (it (fun k x => wyr m k x) 0 (2 * m 77 1).toNat (0, -1)).1
def lyw (m : Mem) : Mem := it (fun s (x : Mem) => stm x 80 s (x 77 (134 + s))) 0 6 m
def LIE (m : Mem) : Prop := ∀ s, 0 ≤ s → s ≤ 5 → 0 ≤ m 80 s ∧ m 80 s ≤ 5
theorem odi_le (m : Mem) (hc : CMd m) (cl cut : Int) : 0 ≤ odi m cl cut ∧ odi m cl cut ≤ 16 := by
  have h0 := hc.1; have h1 := hc.2
  have := it_Ij (f := fun i x => odr m cl cut i x) (fun j x => 0 ≤ x ∧ x ≤ j) (m 77 1).toNat 0 0 (fun i y a b c => by unfold odr; split <;> omega) (by decide)
  unfold odi
  omega
theorem cls_le (m : Mem) (hc : CMd m) : 0 ≤ cls m ∧ cls m ≤ 16 := by
  have h0 := hc.1; have h1 := hc.2
  have := clm_le m (m 77 1 - 1)
  unfold cls
  split <;> omega
theorem s_X12_swapsOfAll {G : GG} {m : Mem} {Q : Option Value → Mem → Prop} (hM : MR m) (hc : CMd m) (hwd : WDn m) (hQ : Q (some (.int (J (soa m)))) m) : CM G 3 mX12_swapsOfAll [.ref (G.2.2.2 76)] m Q := by
  refine CM.of dkX12_swapsOfAll (Or.inl rfl) [some _, none, none, none] rfl (Nat.le_of_ble_eq_true rfl) ?_
  have hc0 := hc.1; have hc1 := hc.2
  refine x_iconst (i := 0) (pc' := 1) rfl rfl ?_
  refine x_istore_n (L' := [some _, some _, none, none]) (i := 1) (pc' := 2) rfl rfl rfl rfl (by decide) rfl ?_
  refine x_iconst (i := 2) (pc' := 3) rfl rfl ?_
  refine x_istore_n (L' := [some _, some _, some _, none]) (i := 3) (pc' := 4) rfl rfl rfl rfl (by decide) rfl ?_
  skip
  refine up_ind0 (P := fun (i : Int) (x : Int) => BW G 3 mX12_swapsOfAll Q 4 [some (.ref (G.2.2.2 76)), some (.int (J (x))), some (.int (J (i))), none] [] m) (fun (i : Int) (x : Int) => sow m i x) (m 77 1) (0) (0) (by omega) (fun i x hj0 hj hk => ?_) ?_
  · skip
    refine x_iload_n (i := 4) (pc' := 5) rfl rfl rfl rfl ?_
    refine x_aload_n (i := 5) (pc' := 6) rfl rfl rfl rfl ?_
    refine m_getf (i := 6) (pc' := 9) rfl rfl flX12_7 (sh76 G) rfl rfl ?_
    refine x_iconst (i := 7) (pc' := 10) rfl rfl ?_
    refine m_iald (i := 8) (pc' := 11) rfl rfl (sh77 G) (by decide) ⟨by omega, by omega⟩ ?_
    refine x_icmpge (i := 9) (pc' := 14) (tgt := 67) rfl rfl (by decide) ⟨by omega, by omega⟩ ⟨by omega, by omega⟩ (fun c1 => by exfalso; omega) (fun c1 => ?_)
    refine x_iconst (i := 10) (pc' := 15) rfl rfl ?_
    refine x_istore_n (L' := [some _, some _, some _, some _]) (i := 11) (pc' := 16) rfl rfl rfl rfl (by decide) rfl ?_
    refine up_ind0 (P := fun (k : Int) (y : Int) => BW G 3 mX12_swapsOfAll Q 16 [some (.ref (G.2.2.2 76)), some (.int (J (y))), some (.int (J (i))), some (.int (J (k)))] [] m) (fun (k : Int) (y : Int) => sor m i k y) (i) (0) (x) (by omega) (fun k y hj02 hj2 hk2 => ?_) ?_
    · have c1 := clm_le m k; have c2 := clm_le m i; have r1 := rkm_le m k; have r2 := rkm_le m i
      refine x_iload_n (i := 12) (pc' := 17) rfl rfl rfl rfl ?_
      refine x_iload_n (i := 13) (pc' := 18) rfl rfl rfl rfl ?_
      refine x_icmpge (i := 14) (pc' := 21) (tgt := 61) rfl rfl (by decide) ⟨by omega, by omega⟩ ⟨by omega, by omega⟩ (fun e1 => by exfalso; omega) (fun e1 => ?_)
      refine x_iload_n (i := 15) (pc' := 22) rfl rfl rfl rfl ?_
      refine x_aload_n (i := 16) (pc' := 23) rfl rfl rfl rfl ?_
      refine x_iload_n (i := 17) (pc' := 24) rfl rfl rfl rfl ?_
      refine m_callV (i := 18) (pc' := 27) (av := [_]) (rest := [_]) rfl rfl (by decide) lX12_198 (sh76 G) rfl rfl rfl rfl rfl (Nat.le_of_ble_eq_true rfl) (Nat.le_refl _) (Nat.le_refl _) (s_X12_clauseOf hM hc hwd (by omega) ?_)
      dsimp only [psh]
      refine x_aload_n (i := 19) (pc' := 28) rfl rfl rfl rfl ?_
      refine x_iload_n (i := 20) (pc' := 29) rfl rfl rfl rfl ?_
      refine m_callV (i := 21) (pc' := 32) (av := [_]) (rest := [_, _]) rfl rfl (by decide) lX12_198 (sh76 G) rfl rfl rfl rfl rfl (Nat.le_of_ble_eq_true rfl) (Nat.le_refl _) (Nat.le_refl _) (s_X12_clauseOf hM hc hwd (by omega) ?_)
      dsimp only [psh]
      refine x_icmpne (i := 22) (pc' := 35) (tgt := 52) rfl rfl (by decide) ⟨by omega, by omega⟩ ⟨by omega, by omega⟩ (fun e2 => ?_) (fun e2 => ?_)
      · skip
        refine x_iconst (i := 32) (pc' := 53) rfl rfl ?_
        refine x_iadd (i := 33) (pc' := 54) rfl rfl ?_
        refine x_istore_n (L' := [some _, some _, some _, some _]) (i := 34) (pc' := 55) rfl rfl rfl rfl (by decide) rfl ?_
        refine x_iinc (L' := [some _, some _, some _, some _]) (i := 35) (pc' := 58) rfl rfl rfl rfl (by decide) rfl ?_
        refine x_goto (i := 36) (pc' := 16) rfl (by decide) ?_
        (unfold sor at hk2; first | exact hk2 | (refine AW.le ?_ hk2; simp [lvle]; done) | ((repeat' split at hk2) <;> first | exact hk2 | (refine AW.le ?_ hk2; simp [lvle]; done) | (exfalso; omega)))
      · skip
        refine x_aload_n (i := 23) (pc' := 36) rfl rfl rfl rfl ?_
        refine x_iload_n (i := 24) (pc' := 37) rfl rfl rfl rfl ?_
        refine m_callV (i := 25) (pc' := 40) (av := [_]) (rest := [_]) rfl rfl (by decide) lX12_212 (sh76 G) rfl rfl rfl rfl rfl (Nat.le_of_ble_eq_true rfl) (Nat.le_refl _) (Nat.le_refl _) (s_X12_rank hM hc hwd (by omega) ?_)
        dsimp only [psh]
        refine x_aload_n (i := 26) (pc' := 41) rfl rfl rfl rfl ?_
        refine x_iload_n (i := 27) (pc' := 42) rfl rfl rfl rfl ?_
        refine m_callV (i := 28) (pc' := 45) (av := [_]) (rest := [_, _]) rfl rfl (by decide) lX12_212 (sh76 G) rfl rfl rfl rfl rfl (Nat.le_of_ble_eq_true rfl) (Nat.le_refl _) (Nat.le_refl _) (s_X12_rank hM hc hwd (by omega) ?_)
        dsimp only [psh]
        refine x_icmple (i := 29) (pc' := 48) (tgt := 52) rfl rfl (by decide) ⟨by omega, by omega⟩ ⟨by omega, by omega⟩ (fun e3 => ?_) (fun e3 => ?_)
        · skip
          refine x_iconst (i := 32) (pc' := 53) rfl rfl ?_
          refine x_iadd (i := 33) (pc' := 54) rfl rfl ?_
          refine x_istore_n (L' := [some _, some _, some _, some _]) (i := 34) (pc' := 55) rfl rfl rfl rfl (by decide) rfl ?_
          refine x_iinc (L' := [some _, some _, some _, some _]) (i := 35) (pc' := 58) rfl rfl rfl rfl (by decide) rfl ?_
          refine x_goto (i := 36) (pc' := 16) rfl (by decide) ?_
          (unfold sor at hk2; first | exact hk2 | (refine AW.le ?_ hk2; simp [lvle]; done) | ((repeat' split at hk2) <;> first | exact hk2 | (refine AW.le ?_ hk2; simp [lvle]; done) | (exfalso; omega)))
        · skip
          refine x_iconst (i := 30) (pc' := 49) rfl rfl ?_
          refine x_goto (i := 31) (pc' := 53) rfl (by decide) ?_
          refine x_iadd (i := 33) (pc' := 54) rfl rfl ?_
          refine x_istore_n (L' := [some _, some _, some _, some _]) (i := 34) (pc' := 55) rfl rfl rfl rfl (by decide) rfl ?_
          refine x_iinc (L' := [some _, some _, some _, some _]) (i := 35) (pc' := 58) rfl rfl rfl rfl (by decide) rfl ?_
          refine x_goto (i := 36) (pc' := 16) rfl (by decide) ?_
          (unfold sor at hk2; first | exact hk2 | (refine AW.le ?_ hk2; simp [lvle]; done) | ((repeat' split at hk2) <;> first | exact hk2 | (refine AW.le ?_ hk2; simp [lvle]; done) | (exfalso; omega)))
    · skip
      refine x_iload_n (i := 12) (pc' := 17) rfl rfl rfl rfl ?_
      refine x_iload_n (i := 13) (pc' := 18) rfl rfl rfl rfl ?_
      refine x_icmpge (i := 14) (pc' := 21) (tgt := 61) rfl rfl (by decide) ⟨by omega, by omega⟩ ⟨by omega, by omega⟩ (fun f1 => ?_) (fun f1 => by exfalso; omega)
      refine x_iinc (L' := [some _, some _, some _, some _]) (i := 37) (pc' := 64) rfl rfl rfl rfl (by decide) rfl ?_
      refine x_goto (i := 38) (pc' := 4) rfl (by decide) ?_
      (unfold sow at hk; first | exact hk | (refine AW.le ?_ hk; simp [lvle]; done) | ((repeat' split at hk) <;> first | exact hk | (refine AW.le ?_ hk; simp [lvle]; done) | (exfalso; omega)))
  · skip
    refine x_iload_n (i := 4) (pc' := 5) rfl rfl rfl rfl ?_
    refine x_aload_n (i := 5) (pc' := 6) rfl rfl rfl rfl ?_
    refine m_getf (i := 6) (pc' := 9) rfl rfl flX12_7 (sh76 G) rfl rfl ?_
    refine x_iconst (i := 7) (pc' := 10) rfl rfl ?_
    refine m_iald (i := 8) (pc' := 11) rfl rfl (sh77 G) (by decide) ⟨by omega, by omega⟩ ?_
    refine x_icmpge (i := 9) (pc' := 14) (tgt := 67) rfl rfl (by decide) ⟨by omega, by omega⟩ ⟨by omega, by omega⟩ (fun c1 => ?_) (fun c1 => by exfalso; omega)
    refine x_iload_n (i := 39) (pc' := 68) rfl rfl rfl rfl ?_
    exact m_ireturn (i := 40) rfl rfl (by rw [Int.sub_zero]; exact hQ)
theorem s_X12_ordered {G : GG} {m : Mem} {Q : Option Value → Mem → Prop} {a : Int} (hM : MR m) (hc : CMd m) (hwd : WDn m) (ra : rg a) (hQ : Q (some (.int (J (odd m a)))) m) : CM G 3 mX12_ordered [.ref (G.2.2.2 76), .int (J (a))] m Q := by
  refine CM.of dkX12_ordered (Or.inl rfl) [some _, some _, none, none, none, none, none] rfl (Nat.le_of_ble_eq_true rfl) ?_
  have hc0 := hc.1; have hc1 := hc.2
  refine x_iconst (i := 0) (pc' := 1) rfl rfl ?_
  refine x_istore_n (L' := [some _, some _, some _, none, none, none, none]) (i := 1) (pc' := 2) rfl rfl rfl rfl (by decide) rfl ?_
  refine x_iconst (i := 2) (pc' := 3) rfl rfl ?_
  refine x_istore_n (L' := [some _, some _, some _, some _, none, none, none]) (i := 3) (pc' := 4) rfl rfl rfl rfl (by decide) rfl ?_
  skip
  refine up_ind1 (P := fun (j : Int) (x : Int) => BW G 3 mX12_ordered Q 4 [some (.ref (G.2.2.2 76)), some (.int (J (a))), some (.int (J (x))), some (.int (J (j))), none, none, none] [] m) (fun (j : Int) (x : Int) => if x < odi m a j then odi m a j else x) (fun (j : Int) (x : Int) => 0 ≤ x ∧ x ≤ 16) (m 77 1 + 1) (0) (0) (by omega) (by omega) (fun j x hj0 hj hi => by (have := odi_le m hc a j; split <;> omega)) (fun j x hj0 hj hi hk => ?_) (fun hi => ?_)
  · skip
    refine x_iload_n (i := 4) (pc' := 5) rfl rfl rfl rfl ?_
    refine x_aload_n (i := 5) (pc' := 6) rfl rfl rfl rfl ?_
    refine m_getf (i := 6) (pc' := 9) rfl rfl flX12_7 (sh76 G) rfl rfl ?_
    refine x_iconst (i := 7) (pc' := 10) rfl rfl ?_
    refine m_iald (i := 8) (pc' := 11) rfl rfl (sh77 G) (by decide) ⟨by omega, by omega⟩ ?_
    refine x_icmpgt (i := 9) (pc' := 14) (tgt := 118) rfl rfl (by decide) ⟨by omega, by omega⟩ ⟨by omega, by omega⟩ (fun c1 => by exfalso; omega) (fun c1 => ?_)
    refine x_iconst (i := 10) (pc' := 15) rfl rfl ?_
    refine x_istore (L' := [some _, some _, some _, some _, some _, none, none]) (i := 11) (pc' := 17) rfl rfl rfl (by decide) rfl ?_
    refine x_iconst (i := 12) (pc' := 18) rfl rfl ?_
    refine x_istore (L' := [some _, some _, some _, some _, some _, some _, none]) (i := 13) (pc' := 20) rfl rfl rfl (by decide) rfl ?_
    refine up_ind0 (P := fun (i : Int) (y : Int) => BW G 3 mX12_ordered Q 20 [some (.ref (G.2.2.2 76)), some (.int (J (a))), some (.int (J (x))), some (.int (J (j))), some (.int (J (y))), some (.int (J (i))), none] [] m) (fun (i : Int) (y : Int) => odr m a j i y) (m 77 1) (0) (0) (by omega) (fun i y hj02 hj2 hk2 => ?_) ?_
    · have c1 := clm_le m i; have r1 := rkm_le m i
      refine x_iload (i := 14) (pc' := 22) rfl rfl rfl ?_
      refine x_aload_n (i := 15) (pc' := 23) rfl rfl rfl rfl ?_
      refine m_getf (i := 16) (pc' := 26) rfl rfl flX12_7 (sh76 G) rfl rfl ?_
      refine x_iconst (i := 17) (pc' := 27) rfl rfl ?_
      refine m_iald (i := 18) (pc' := 28) rfl rfl (sh77 G) (by decide) ⟨by omega, by omega⟩ ?_
      refine x_icmpge (i := 19) (pc' := 31) (tgt := 99) rfl rfl (by decide) ⟨by omega, by omega⟩ ⟨by omega, by omega⟩ (fun e1 => by exfalso; omega) (fun e1 => ?_)
      refine x_aload_n (i := 20) (pc' := 32) rfl rfl rfl rfl ?_
      refine x_iload (i := 21) (pc' := 34) rfl rfl rfl ?_
      refine m_callV (i := 22) (pc' := 37) (av := [_]) (rest := []) rfl rfl (by decide) lX12_212 (sh76 G) rfl rfl rfl rfl rfl (Nat.le_of_ble_eq_true rfl) (Nat.le_refl _) (Nat.le_refl _) (s_X12_rank hM hc hwd (by omega) ?_)
      dsimp only [psh]
      refine x_iconst (i := 23) (pc' := 38) rfl rfl ?_
      refine x_icmpeq (i := 24) (pc' := 41) (tgt := 61) rfl rfl (by decide) ⟨by omega, by omega⟩ ⟨by omega, by omega⟩ (fun e2 => ?_) (fun e2 => ?_)
      · skip
        refine x_iconst (i := 35) (pc' := 62) rfl rfl ?_
        refine x_goto (i := 36) (pc' := 66) rfl (by decide) ?_
        refine x_istore (L' := [some _, some _, some _, some _, some _, some _, some _]) (i := 38) (pc' := 68) rfl rfl rfl (by decide) rfl ?_
        refine x_iload (i := 39) (pc' := 70) rfl rfl rfl ?_
        refine x_aload_n (i := 40) (pc' := 71) rfl rfl rfl rfl ?_
        refine x_iload (i := 41) (pc' := 73) rfl rfl rfl ?_
        refine m_callV (i := 42) (pc' := 76) (av := [_]) (rest := [_]) rfl rfl (by decide) lX12_198 (sh76 G) rfl rfl rfl rfl rfl (Nat.le_of_ble_eq_true rfl) (Nat.le_refl _) (Nat.le_refl _) (s_X12_clauseOf hM hc hwd (by omega) ?_)
        dsimp only [psh]
        refine x_iload_n (i := 43) (pc' := 77) rfl rfl rfl rfl ?_
        refine x_icmpne (i := 44) (pc' := 80) (tgt := 89) rfl rfl (by decide) ⟨by omega, by omega⟩ ⟨by omega, by omega⟩ (fun e3 => ?_) (fun e3 => ?_)
        · skip
          refine x_iconst (i := 49) (pc' := 90) rfl rfl ?_
          refine x_iadd (i := 50) (pc' := 91) rfl rfl ?_
          refine x_istore (L' := [some _, some _, some _, some _, some _, some _, some _]) (i := 51) (pc' := 93) rfl rfl rfl (by decide) rfl ?_
          refine x_iinc (L' := [some _, some _, some _, some _, some _, some _, some _]) (i := 52) (pc' := 96) rfl rfl rfl rfl (by decide) rfl ?_
          refine x_goto (i := 53) (pc' := 20) rfl (by decide) ?_
          (unfold odr at hk2; (repeat' split at hk2) <;> first | (exfalso; omega; done) | (refine AW.le ?_ hk2; simp [lvle]; done))
        · skip
          refine x_iload (i := 45) (pc' := 82) rfl rfl rfl ?_
          refine x_ifeq (i := 46) (pc' := 85) (tgt := 89) rfl rfl (by decide) ⟨by omega, by omega⟩ (fun e4 => ?_) (fun e4 => ?_)
          · skip
            refine x_iconst (i := 49) (pc' := 90) rfl rfl ?_
            refine x_iadd (i := 50) (pc' := 91) rfl rfl ?_
            refine x_istore (L' := [some _, some _, some _, some _, some _, some _, some _]) (i := 51) (pc' := 93) rfl rfl rfl (by decide) rfl ?_
            refine x_iinc (L' := [some _, some _, some _, some _, some _, some _, some _]) (i := 52) (pc' := 96) rfl rfl rfl rfl (by decide) rfl ?_
            refine x_goto (i := 53) (pc' := 20) rfl (by decide) ?_
            (unfold odr at hk2; (repeat' split at hk2) <;> first | (exfalso; omega; done) | (refine AW.le ?_ hk2; simp [lvle]; done))
          · skip
            refine x_iconst (i := 47) (pc' := 86) rfl rfl ?_
            refine x_goto (i := 48) (pc' := 90) rfl (by decide) ?_
            refine x_iadd (i := 50) (pc' := 91) rfl rfl ?_
            refine x_istore (L' := [some _, some _, some _, some _, some _, some _, some _]) (i := 51) (pc' := 93) rfl rfl rfl (by decide) rfl ?_
            refine x_iinc (L' := [some _, some _, some _, some _, some _, some _, some _]) (i := 52) (pc' := 96) rfl rfl rfl rfl (by decide) rfl ?_
            refine x_goto (i := 53) (pc' := 20) rfl (by decide) ?_
            (unfold odr at hk2; (repeat' split at hk2) <;> first | (exfalso; omega; done) | (refine AW.le ?_ hk2; simp [lvle]; done))
      · skip
        refine x_aload_n (i := 25) (pc' := 42) rfl rfl rfl rfl ?_
        refine x_iload (i := 26) (pc' := 44) rfl rfl rfl ?_
        refine m_callV (i := 27) (pc' := 47) (av := [_]) (rest := []) rfl rfl (by decide) lX12_212 (sh76 G) rfl rfl rfl rfl rfl (Nat.le_of_ble_eq_true rfl) (Nat.le_refl _) (Nat.le_refl _) (s_X12_rank hM hc hwd (by omega) ?_)
        dsimp only [psh]
        refine x_iload (i := 28) (pc' := 49) rfl rfl rfl ?_
        refine x_iload_n (i := 29) (pc' := 50) rfl rfl rfl rfl ?_
        refine x_icmpge (i := 30) (pc' := 53) (tgt := 57) rfl rfl (by decide) ⟨by omega, by omega⟩ ⟨by omega, by omega⟩ (fun e5 => ?_) (fun e5 => ?_)
        · skip
          refine x_iconst (i := 33) (pc' := 58) rfl rfl ?_
          refine x_icmpne (i := 34) (pc' := 61) (tgt := 65) rfl rfl (by decide) ⟨by omega, by omega⟩ ⟨by omega, by omega⟩ (fun e6 => ?_) (fun e6 => ?_)
          · skip
            refine x_iconst (i := 37) (pc' := 66) rfl rfl ?_
            refine x_istore (L' := [some _, some _, some _, some _, some _, some _, some _]) (i := 38) (pc' := 68) rfl rfl rfl (by decide) rfl ?_
            refine x_iload (i := 39) (pc' := 70) rfl rfl rfl ?_
            refine x_aload_n (i := 40) (pc' := 71) rfl rfl rfl rfl ?_
            refine x_iload (i := 41) (pc' := 73) rfl rfl rfl ?_
            refine m_callV (i := 42) (pc' := 76) (av := [_]) (rest := [_]) rfl rfl (by decide) lX12_198 (sh76 G) rfl rfl rfl rfl rfl (Nat.le_of_ble_eq_true rfl) (Nat.le_refl _) (Nat.le_refl _) (s_X12_clauseOf hM hc hwd (by omega) ?_)
            dsimp only [psh]
            refine x_iload_n (i := 43) (pc' := 77) rfl rfl rfl rfl ?_
            refine x_icmpne (i := 44) (pc' := 80) (tgt := 89) rfl rfl (by decide) ⟨by omega, by omega⟩ ⟨by omega, by omega⟩ (fun e7 => ?_) (fun e7 => ?_)
            · skip
              refine x_iconst (i := 49) (pc' := 90) rfl rfl ?_
              refine x_iadd (i := 50) (pc' := 91) rfl rfl ?_
              refine x_istore (L' := [some _, some _, some _, some _, some _, some _, some _]) (i := 51) (pc' := 93) rfl rfl rfl (by decide) rfl ?_
              refine x_iinc (L' := [some _, some _, some _, some _, some _, some _, some _]) (i := 52) (pc' := 96) rfl rfl rfl rfl (by decide) rfl ?_
              refine x_goto (i := 53) (pc' := 20) rfl (by decide) ?_
              (unfold odr at hk2; (repeat' split at hk2) <;> first | (exfalso; omega; done) | (refine AW.le ?_ hk2; simp [lvle]; done))
            · skip
              refine x_iload (i := 45) (pc' := 82) rfl rfl rfl ?_
              refine x_ifeq (i := 46) (pc' := 85) (tgt := 89) rfl rfl (by decide) ⟨by omega, by omega⟩ (fun e8 => ?_) (fun e8 => ?_)
              · skip
                refine x_iconst (i := 49) (pc' := 90) rfl rfl ?_
                refine x_iadd (i := 50) (pc' := 91) rfl rfl ?_
                refine x_istore (L' := [some _, some _, some _, some _, some _, some _, some _]) (i := 51) (pc' := 93) rfl rfl rfl (by decide) rfl ?_
                refine x_iinc (L' := [some _, some _, some _, some _, some _, some _, some _]) (i := 52) (pc' := 96) rfl rfl rfl rfl (by decide) rfl ?_
                refine x_goto (i := 53) (pc' := 20) rfl (by decide) ?_
                (unfold odr at hk2; (repeat' split at hk2) <;> first | (exfalso; omega; done) | (refine AW.le ?_ hk2; simp [lvle]; done))
              · skip
                refine x_iconst (i := 47) (pc' := 86) rfl rfl ?_
                refine x_goto (i := 48) (pc' := 90) rfl (by decide) ?_
                refine x_iadd (i := 50) (pc' := 91) rfl rfl ?_
                refine x_istore (L' := [some _, some _, some _, some _, some _, some _, some _]) (i := 51) (pc' := 93) rfl rfl rfl (by decide) rfl ?_
                refine x_iinc (L' := [some _, some _, some _, some _, some _, some _, some _]) (i := 52) (pc' := 96) rfl rfl rfl rfl (by decide) rfl ?_
                refine x_goto (i := 53) (pc' := 20) rfl (by decide) ?_
                (unfold odr at hk2; (repeat' split at hk2) <;> first | (exfalso; omega; done) | (refine AW.le ?_ hk2; simp [lvle]; done))
          · skip
            refine x_iconst (i := 35) (pc' := 62) rfl rfl ?_
            refine x_goto (i := 36) (pc' := 66) rfl (by decide) ?_
            refine x_istore (L' := [some _, some _, some _, some _, some _, some _, some _]) (i := 38) (pc' := 68) rfl rfl rfl (by decide) rfl ?_
            refine x_iload (i := 39) (pc' := 70) rfl rfl rfl ?_
            refine x_aload_n (i := 40) (pc' := 71) rfl rfl rfl rfl ?_
            refine x_iload (i := 41) (pc' := 73) rfl rfl rfl ?_
            refine m_callV (i := 42) (pc' := 76) (av := [_]) (rest := [_]) rfl rfl (by decide) lX12_198 (sh76 G) rfl rfl rfl rfl rfl (Nat.le_of_ble_eq_true rfl) (Nat.le_refl _) (Nat.le_refl _) (s_X12_clauseOf hM hc hwd (by omega) ?_)
            dsimp only [psh]
            refine x_iload_n (i := 43) (pc' := 77) rfl rfl rfl rfl ?_
            refine x_icmpne (i := 44) (pc' := 80) (tgt := 89) rfl rfl (by decide) ⟨by omega, by omega⟩ ⟨by omega, by omega⟩ (fun e9 => ?_) (fun e9 => ?_)
            · skip
              refine x_iconst (i := 49) (pc' := 90) rfl rfl ?_
              refine x_iadd (i := 50) (pc' := 91) rfl rfl ?_
              refine x_istore (L' := [some _, some _, some _, some _, some _, some _, some _]) (i := 51) (pc' := 93) rfl rfl rfl (by decide) rfl ?_
              refine x_iinc (L' := [some _, some _, some _, some _, some _, some _, some _]) (i := 52) (pc' := 96) rfl rfl rfl rfl (by decide) rfl ?_
              refine x_goto (i := 53) (pc' := 20) rfl (by decide) ?_
              (unfold odr at hk2; (repeat' split at hk2) <;> first | (exfalso; omega; done) | (refine AW.le ?_ hk2; simp [lvle]; done))
            · skip
              refine x_iload (i := 45) (pc' := 82) rfl rfl rfl ?_
              refine x_ifeq (i := 46) (pc' := 85) (tgt := 89) rfl rfl (by decide) ⟨by omega, by omega⟩ (fun e10 => ?_) (fun e10 => ?_)
              · skip
                refine x_iconst (i := 49) (pc' := 90) rfl rfl ?_
                refine x_iadd (i := 50) (pc' := 91) rfl rfl ?_
                refine x_istore (L' := [some _, some _, some _, some _, some _, some _, some _]) (i := 51) (pc' := 93) rfl rfl rfl (by decide) rfl ?_
                refine x_iinc (L' := [some _, some _, some _, some _, some _, some _, some _]) (i := 52) (pc' := 96) rfl rfl rfl rfl (by decide) rfl ?_
                refine x_goto (i := 53) (pc' := 20) rfl (by decide) ?_
                (unfold odr at hk2; (repeat' split at hk2) <;> first | (exfalso; omega; done) | (refine AW.le ?_ hk2; simp [lvle]; done))
              · skip
                refine x_iconst (i := 47) (pc' := 86) rfl rfl ?_
                refine x_goto (i := 48) (pc' := 90) rfl (by decide) ?_
                refine x_iadd (i := 50) (pc' := 91) rfl rfl ?_
                refine x_istore (L' := [some _, some _, some _, some _, some _, some _, some _]) (i := 51) (pc' := 93) rfl rfl rfl (by decide) rfl ?_
                refine x_iinc (L' := [some _, some _, some _, some _, some _, some _, some _]) (i := 52) (pc' := 96) rfl rfl rfl rfl (by decide) rfl ?_
                refine x_goto (i := 53) (pc' := 20) rfl (by decide) ?_
                (unfold odr at hk2; (repeat' split at hk2) <;> first | (exfalso; omega; done) | (refine AW.le ?_ hk2; simp [lvle]; done))
        · skip
          refine x_iconst (i := 31) (pc' := 54) rfl rfl ?_
          refine x_goto (i := 32) (pc' := 58) rfl (by decide) ?_
          refine x_icmpne (i := 34) (pc' := 61) (tgt := 65) rfl rfl (by decide) ⟨by omega, by omega⟩ ⟨by omega, by omega⟩ (fun e11 => ?_) (fun e11 => ?_)
          · skip
            refine x_iconst (i := 37) (pc' := 66) rfl rfl ?_
            refine x_istore (L' := [some _, some _, some _, some _, some _, some _, some _]) (i := 38) (pc' := 68) rfl rfl rfl (by decide) rfl ?_
            refine x_iload (i := 39) (pc' := 70) rfl rfl rfl ?_
            refine x_aload_n (i := 40) (pc' := 71) rfl rfl rfl rfl ?_
            refine x_iload (i := 41) (pc' := 73) rfl rfl rfl ?_
            refine m_callV (i := 42) (pc' := 76) (av := [_]) (rest := [_]) rfl rfl (by decide) lX12_198 (sh76 G) rfl rfl rfl rfl rfl (Nat.le_of_ble_eq_true rfl) (Nat.le_refl _) (Nat.le_refl _) (s_X12_clauseOf hM hc hwd (by omega) ?_)
            dsimp only [psh]
            refine x_iload_n (i := 43) (pc' := 77) rfl rfl rfl rfl ?_
            refine x_icmpne (i := 44) (pc' := 80) (tgt := 89) rfl rfl (by decide) ⟨by omega, by omega⟩ ⟨by omega, by omega⟩ (fun e12 => ?_) (fun e12 => ?_)
            · skip
              refine x_iconst (i := 49) (pc' := 90) rfl rfl ?_
              refine x_iadd (i := 50) (pc' := 91) rfl rfl ?_
              refine x_istore (L' := [some _, some _, some _, some _, some _, some _, some _]) (i := 51) (pc' := 93) rfl rfl rfl (by decide) rfl ?_
              refine x_iinc (L' := [some _, some _, some _, some _, some _, some _, some _]) (i := 52) (pc' := 96) rfl rfl rfl rfl (by decide) rfl ?_
              refine x_goto (i := 53) (pc' := 20) rfl (by decide) ?_
              (unfold odr at hk2; (repeat' split at hk2) <;> first | (exfalso; omega; done) | (refine AW.le ?_ hk2; simp [lvle]; done))
            · skip
              refine x_iload (i := 45) (pc' := 82) rfl rfl rfl ?_
              refine x_ifeq (i := 46) (pc' := 85) (tgt := 89) rfl rfl (by decide) ⟨by omega, by omega⟩ (fun e13 => ?_) (fun e13 => ?_)
              · skip
                refine x_iconst (i := 49) (pc' := 90) rfl rfl ?_
                refine x_iadd (i := 50) (pc' := 91) rfl rfl ?_
                refine x_istore (L' := [some _, some _, some _, some _, some _, some _, some _]) (i := 51) (pc' := 93) rfl rfl rfl (by decide) rfl ?_
                refine x_iinc (L' := [some _, some _, some _, some _, some _, some _, some _]) (i := 52) (pc' := 96) rfl rfl rfl rfl (by decide) rfl ?_
                refine x_goto (i := 53) (pc' := 20) rfl (by decide) ?_
                (unfold odr at hk2; (repeat' split at hk2) <;> first | (exfalso; omega; done) | (refine AW.le ?_ hk2; simp [lvle]; done))
              · skip
                refine x_iconst (i := 47) (pc' := 86) rfl rfl ?_
                refine x_goto (i := 48) (pc' := 90) rfl (by decide) ?_
                refine x_iadd (i := 50) (pc' := 91) rfl rfl ?_
                refine x_istore (L' := [some _, some _, some _, some _, some _, some _, some _]) (i := 51) (pc' := 93) rfl rfl rfl (by decide) rfl ?_
                refine x_iinc (L' := [some _, some _, some _, some _, some _, some _, some _]) (i := 52) (pc' := 96) rfl rfl rfl rfl (by decide) rfl ?_
                refine x_goto (i := 53) (pc' := 20) rfl (by decide) ?_
                (unfold odr at hk2; (repeat' split at hk2) <;> first | (exfalso; omega; done) | (refine AW.le ?_ hk2; simp [lvle]; done))
          · skip
            refine x_iconst (i := 35) (pc' := 62) rfl rfl ?_
            refine x_goto (i := 36) (pc' := 66) rfl (by decide) ?_
            refine x_istore (L' := [some _, some _, some _, some _, some _, some _, some _]) (i := 38) (pc' := 68) rfl rfl rfl (by decide) rfl ?_
            refine x_iload (i := 39) (pc' := 70) rfl rfl rfl ?_
            refine x_aload_n (i := 40) (pc' := 71) rfl rfl rfl rfl ?_
            refine x_iload (i := 41) (pc' := 73) rfl rfl rfl ?_
            refine m_callV (i := 42) (pc' := 76) (av := [_]) (rest := [_]) rfl rfl (by decide) lX12_198 (sh76 G) rfl rfl rfl rfl rfl (Nat.le_of_ble_eq_true rfl) (Nat.le_refl _) (Nat.le_refl _) (s_X12_clauseOf hM hc hwd (by omega) ?_)
            dsimp only [psh]
            refine x_iload_n (i := 43) (pc' := 77) rfl rfl rfl rfl ?_
            refine x_icmpne (i := 44) (pc' := 80) (tgt := 89) rfl rfl (by decide) ⟨by omega, by omega⟩ ⟨by omega, by omega⟩ (fun e14 => ?_) (fun e14 => ?_)
            · skip
              refine x_iconst (i := 49) (pc' := 90) rfl rfl ?_
              refine x_iadd (i := 50) (pc' := 91) rfl rfl ?_
              refine x_istore (L' := [some _, some _, some _, some _, some _, some _, some _]) (i := 51) (pc' := 93) rfl rfl rfl (by decide) rfl ?_
              refine x_iinc (L' := [some _, some _, some _, some _, some _, some _, some _]) (i := 52) (pc' := 96) rfl rfl rfl rfl (by decide) rfl ?_
              refine x_goto (i := 53) (pc' := 20) rfl (by decide) ?_
              (unfold odr at hk2; (repeat' split at hk2) <;> first | (exfalso; omega; done) | (refine AW.le ?_ hk2; simp [lvle]; done))
            · skip
              refine x_iload (i := 45) (pc' := 82) rfl rfl rfl ?_
              refine x_ifeq (i := 46) (pc' := 85) (tgt := 89) rfl rfl (by decide) ⟨by omega, by omega⟩ (fun e15 => ?_) (fun e15 => ?_)
              · skip
                refine x_iconst (i := 49) (pc' := 90) rfl rfl ?_
                refine x_iadd (i := 50) (pc' := 91) rfl rfl ?_
                refine x_istore (L' := [some _, some _, some _, some _, some _, some _, some _]) (i := 51) (pc' := 93) rfl rfl rfl (by decide) rfl ?_
                refine x_iinc (L' := [some _, some _, some _, some _, some _, some _, some _]) (i := 52) (pc' := 96) rfl rfl rfl rfl (by decide) rfl ?_
                refine x_goto (i := 53) (pc' := 20) rfl (by decide) ?_
                (unfold odr at hk2; (repeat' split at hk2) <;> first | (exfalso; omega; done) | (refine AW.le ?_ hk2; simp [lvle]; done))
              · skip
                refine x_iconst (i := 47) (pc' := 86) rfl rfl ?_
                refine x_goto (i := 48) (pc' := 90) rfl (by decide) ?_
                refine x_iadd (i := 50) (pc' := 91) rfl rfl ?_
                refine x_istore (L' := [some _, some _, some _, some _, some _, some _, some _]) (i := 51) (pc' := 93) rfl rfl rfl (by decide) rfl ?_
                refine x_iinc (L' := [some _, some _, some _, some _, some _, some _, some _]) (i := 52) (pc' := 96) rfl rfl rfl rfl (by decide) rfl ?_
                refine x_goto (i := 53) (pc' := 20) rfl (by decide) ?_
                (unfold odr at hk2; (repeat' split at hk2) <;> first | (exfalso; omega; done) | (refine AW.le ?_ hk2; simp [lvle]; done))
    · have hod := odi_le m hc a j
      have hod2 : it (fun (i : Int) (y : Int) => odr m a j i y) 0 (m 77 1 - 0).toNat 0 = odi m a j := (by rw [Int.sub_zero]; rfl)
      rw [hod2]
      refine x_iload (i := 14) (pc' := 22) rfl rfl rfl ?_
      refine x_aload_n (i := 15) (pc' := 23) rfl rfl rfl rfl ?_
      refine m_getf (i := 16) (pc' := 26) rfl rfl flX12_7 (sh76 G) rfl rfl ?_
      refine x_iconst (i := 17) (pc' := 27) rfl rfl ?_
      refine m_iald (i := 18) (pc' := 28) rfl rfl (sh77 G) (by decide) ⟨by omega, by omega⟩ ?_
      refine x_icmpge (i := 19) (pc' := 31) (tgt := 99) rfl rfl (by decide) ⟨by omega, by omega⟩ ⟨by omega, by omega⟩ (fun f1 => ?_) (fun f1 => by exfalso; omega)
      refine x_iload (i := 54) (pc' := 101) rfl rfl rfl ?_
      refine x_iload_n (i := 55) (pc' := 102) rfl rfl rfl rfl ?_
      refine x_icmple (i := 56) (pc' := 105) (tgt := 110) rfl rfl (by decide) ⟨by omega, by omega⟩ ⟨by omega, by omega⟩ (fun f2 => ?_) (fun f2 => ?_)
      · skip
        refine x_iload_n (i := 59) (pc' := 111) rfl rfl rfl rfl ?_
        refine x_istore_n (L' := [some _, some _, some _, some _, some _, some _, none]) (i := 60) (pc' := 112) rfl rfl rfl rfl (by decide) rfl ?_
        refine x_iinc (L' := [some _, some _, some _, some _, some _, some _, none]) (i := 61) (pc' := 115) rfl rfl rfl rfl (by decide) rfl ?_
        refine x_goto (i := 62) (pc' := 4) rfl (by decide) ?_
        (first | exact hk | (refine AW.le ?_ hk; simp [lvle]; done) | ((repeat' split at hk) <;> first | exact hk | (refine AW.le ?_ hk; simp [lvle]; done) | (exfalso; omega)))
      · skip
        refine x_iload (i := 57) (pc' := 107) rfl rfl rfl ?_
        refine x_goto (i := 58) (pc' := 111) rfl (by decide) ?_
        refine x_istore_n (L' := [some _, some _, some _, some _, some _, some _, none]) (i := 60) (pc' := 112) rfl rfl rfl rfl (by decide) rfl ?_
        refine x_iinc (L' := [some _, some _, some _, some _, some _, some _, none]) (i := 61) (pc' := 115) rfl rfl rfl rfl (by decide) rfl ?_
        refine x_goto (i := 62) (pc' := 4) rfl (by decide) ?_
        (first | exact hk | (refine AW.le ?_ hk; simp [lvle]; done) | ((repeat' split at hk) <;> first | exact hk | (refine AW.le ?_ hk; simp [lvle]; done) | (exfalso; omega)))
  · skip
    refine x_iload_n (i := 4) (pc' := 5) rfl rfl rfl rfl ?_
    refine x_aload_n (i := 5) (pc' := 6) rfl rfl rfl rfl ?_
    refine m_getf (i := 6) (pc' := 9) rfl rfl flX12_7 (sh76 G) rfl rfl ?_
    refine x_iconst (i := 7) (pc' := 10) rfl rfl ?_
    refine m_iald (i := 8) (pc' := 11) rfl rfl (sh77 G) (by decide) ⟨by omega, by omega⟩ ?_
    refine x_icmpgt (i := 9) (pc' := 14) (tgt := 118) rfl rfl (by decide) ⟨by omega, by omega⟩ ⟨by omega, by omega⟩ (fun c1 => ?_) (fun c1 => by exfalso; omega)
    refine x_iload_n (i := 63) (pc' := 119) rfl rfl rfl rfl ?_
    exact m_ireturn (i := 64) rfl rfl (by rw [Int.sub_zero]; exact hQ)
theorem s_X12_clauses {G : GG} {m : Mem} {Q : Option Value → Mem → Prop} (hM : MR m) (hc : CMd m) (hwd : WDn m) (hQ : Q (some (.int (J (cls m)))) m) : CM G 3 mX12_clauses [.ref (G.2.2.2 76)] m Q := by
  refine CM.of dkX12_clauses (Or.inl rfl) [some _, none] rfl (Nat.le_of_ble_eq_true rfl) ?_
  have hc0 := hc.1; have hc1 := hc.2
  refine x_aload_n (i := 0) (pc' := 1) rfl rfl rfl rfl ?_
  refine m_getf (i := 1) (pc' := 4) rfl rfl flX12_7 (sh76 G) rfl rfl ?_
  refine x_iconst (i := 2) (pc' := 5) rfl rfl ?_
  refine m_iald (i := 3) (pc' := 6) rfl rfl (sh77 G) (by decide) ⟨by omega, by omega⟩ ?_
  refine x_istore_n (L' := [some _, some _]) (i := 4) (pc' := 7) rfl rfl rfl rfl (by decide) rfl ?_
  refine x_iload_n (i := 5) (pc' := 8) rfl rfl rfl rfl ?_
  refine x_ifne (i := 6) (pc' := 11) (tgt := 15) rfl rfl (by decide) ⟨by omega, by omega⟩ (fun c1 => ?_) (fun c1 => ?_)
  · skip
    refine x_aload_n (i := 9) (pc' := 16) rfl rfl rfl rfl ?_
    refine x_iload_n (i := 10) (pc' := 17) rfl rfl rfl rfl ?_
    refine x_iconst (i := 11) (pc' := 18) rfl rfl ?_
    refine x_isub (i := 12) (pc' := 19) rfl rfl ?_
    refine m_callV (i := 13) (pc' := 22) (av := [_]) (rest := []) rfl rfl (by decide) lX12_198 (sh76 G) rfl rfl rfl rfl rfl (Nat.le_of_ble_eq_true rfl) (Nat.le_refl _) (Nat.le_refl _) (s_X12_clauseOf hM hc hwd (by omega) ?_)
    dsimp only [psh]
    refine x_iconst (i := 14) (pc' := 23) rfl rfl ?_
    refine x_iadd (i := 15) (pc' := 24) rfl rfl ?_
    exact m_ireturn (i := 16) rfl rfl (by unfold cls at hQ; (repeat' split at hQ) <;> first | exact hQ | (exfalso; omega))
  · skip
    refine x_iconst (i := 7) (pc' := 12) rfl rfl ?_
    refine x_goto (i := 8) (pc' := 24) rfl (by decide) ?_
    exact m_ireturn (i := 16) rfl rfl (by unfold cls at hQ; (repeat' split at hQ) <;> first | exact hQ | (exfalso; omega))
theorem s_X12_moved {G : GG} {m : Mem} {Q : Option Value → Mem → Prop} (hM : MR m) (hc : CMd m) (hwd : WDn m) (hQ : Q (some (.int (J (mvd m)))) m) : CM G 4 mX12_moved [.ref (G.2.2.2 76)] m Q := by
  refine CM.of dkX12_moved (Or.inl rfl) [some _, none, none] rfl (Nat.le_of_ble_eq_true rfl) ?_
  have hc0 := hc.1; have hc1 := hc.2
  have hcl := cls_le m hc
  refine x_iconst (i := 0) (pc' := 1) rfl rfl ?_
  refine x_istore_n (L' := [some _, some _, none]) (i := 1) (pc' := 2) rfl rfl rfl rfl (by decide) rfl ?_
  refine x_iconst (i := 2) (pc' := 3) rfl rfl ?_
  refine x_istore_n (L' := [some _, some _, some _]) (i := 3) (pc' := 4) rfl rfl rfl rfl (by decide) rfl ?_
  skip
  refine up_ind0 (P := fun (j : Int) (x : Int) => BW G 4 mX12_moved Q 4 [some (.ref (G.2.2.2 76)), some (.int (J (x))), some (.int (J (j)))] [] m) (fun (j : Int) (x : Int) => x + odd m j) (cls m) (0) (0) (by omega) (fun j x hj0 hj hk => ?_) ?_
  · skip
    refine x_iload_n (i := 4) (pc' := 5) rfl rfl rfl rfl ?_
    refine x_aload_n (i := 5) (pc' := 6) rfl rfl rfl rfl ?_
    refine m_callV (i := 6) (pc' := 9) (av := []) (rest := [_]) rfl rfl (by decide) lX12_215 (sh76 G) rfl rfl rfl rfl rfl (Nat.le_of_ble_eq_true rfl) (Nat.le_refl _) (Nat.le_refl _) (s_X12_clauses hM hc hwd ?_)
    dsimp only [psh]
    refine x_icmpge (i := 7) (pc' := 12) (tgt := 26) rfl rfl (by decide) ⟨by omega, by omega⟩ ⟨by omega, by omega⟩ (fun c1 => by exfalso; omega) (fun c1 => ?_)
    refine x_iload_n (i := 8) (pc' := 13) rfl rfl rfl rfl ?_
    refine x_aload_n (i := 9) (pc' := 14) rfl rfl rfl rfl ?_
    refine x_iload_n (i := 10) (pc' := 15) rfl rfl rfl rfl ?_
    refine m_callV (i := 11) (pc' := 18) (av := [_]) (rest := [_]) rfl rfl (by decide) lX12_218 (sh76 G) rfl rfl rfl rfl rfl (Nat.le_of_ble_eq_true rfl) (Nat.le_refl _) (Nat.le_refl _) (s_X12_ordered hM hc hwd (by omega) ?_)
    dsimp only [psh]
    refine x_iadd (i := 12) (pc' := 19) rfl rfl ?_
    refine x_istore_n (L' := [some _, some _, some _]) (i := 13) (pc' := 20) rfl rfl rfl rfl (by decide) rfl ?_
    refine x_iinc (L' := [some _, some _, some _]) (i := 14) (pc' := 23) rfl rfl rfl rfl (by decide) rfl ?_
    refine x_goto (i := 15) (pc' := 4) rfl (by decide) ?_
    (first | exact hk | (refine AW.le ?_ hk; simp [lvle]; done) | ((repeat' split at hk) <;> first | exact hk | (refine AW.le ?_ hk; simp [lvle]; done) | (exfalso; omega)))
  · skip
    refine x_iload_n (i := 4) (pc' := 5) rfl rfl rfl rfl ?_
    refine x_aload_n (i := 5) (pc' := 6) rfl rfl rfl rfl ?_
    refine m_callV (i := 6) (pc' := 9) (av := []) (rest := [_]) rfl rfl (by decide) lX12_215 (sh76 G) rfl rfl rfl rfl rfl (Nat.le_of_ble_eq_true rfl) (Nat.le_refl _) (Nat.le_refl _) (s_X12_clauses hM hc hwd ?_)
    dsimp only [psh]
    refine x_icmpge (i := 7) (pc' := 12) (tgt := 26) rfl rfl (by decide) ⟨by omega, by omega⟩ ⟨by omega, by omega⟩ (fun c1 => ?_) (fun c1 => by exfalso; omega)
    refine x_aload_n (i := 16) (pc' := 27) rfl rfl rfl rfl ?_
    refine m_getf (i := 17) (pc' := 30) rfl rfl flX12_7 (sh76 G) rfl rfl ?_
    refine x_iconst (i := 18) (pc' := 31) rfl rfl ?_
    refine m_iald (i := 19) (pc' := 32) rfl rfl (sh77 G) (by decide) ⟨by omega, by omega⟩ ?_
    refine x_iload_n (i := 20) (pc' := 33) rfl rfl rfl rfl ?_
    refine x_isub (i := 21) (pc' := 34) rfl rfl ?_
    exact m_ireturn (i := 22) rfl rfl (by rw [Int.sub_zero]; exact hQ)
theorem s_X12_vain {G : GG} {m : Mem} {Q : Option Value → Mem → Prop} (hM : MR m) (hc : CMd m) (hwd : WDn m) (hQ : Q (some (.int (J (vna m)))) m) : CM G 5 mX12_vain [.ref (G.2.2.2 76)] m Q := by
  refine CM.of dkX12_vain (Or.inl rfl) [some _, none, none] rfl (Nat.le_of_ble_eq_true rfl) ?_
  have hc0 := hc.1; have hc1 := hc.2
  refine x_iconst (i := 0) (pc' := 1) rfl rfl ?_
  refine x_istore_n (L' := [some _, some _, none]) (i := 1) (pc' := 2) rfl rfl rfl rfl (by decide) rfl ?_
  refine x_iconst (i := 2) (pc' := 3) rfl rfl ?_
  refine x_istore_n (L' := [some _, some _, some _]) (i := 3) (pc' := 4) rfl rfl rfl rfl (by decide) rfl ?_
  skip
  refine up_ind0 (P := fun (j : Int) (x : Int) => BW G 5 mX12_vain Q 4 [some (.ref (G.2.2.2 76)), some (.int (J (x))), some (.int (J (j)))] [] m) (fun (j : Int) (x : Int) => x + (if vnm m j = 0 then 0 else 1)) (m 77 1) (0) (0) (by omega) (fun j x hj0 hj hk => ?_) ?_
  · have v1 := vnm_01 m j
    refine x_iload_n (i := 4) (pc' := 5) rfl rfl rfl rfl ?_
    refine x_aload_n (i := 5) (pc' := 6) rfl rfl rfl rfl ?_
    refine m_getf (i := 6) (pc' := 9) rfl rfl flX12_7 (sh76 G) rfl rfl ?_
    refine x_iconst (i := 7) (pc' := 10) rfl rfl ?_
    refine m_iald (i := 8) (pc' := 11) rfl rfl (sh77 G) (by decide) ⟨by omega, by omega⟩ ?_
    refine x_icmpge (i := 9) (pc' := 14) (tgt := 36) rfl rfl (by decide) ⟨by omega, by omega⟩ ⟨by omega, by omega⟩ (fun c1 => by exfalso; omega) (fun c1 => ?_)
    refine x_iload_n (i := 10) (pc' := 15) rfl rfl rfl rfl ?_
    refine x_aload_n (i := 11) (pc' := 16) rfl rfl rfl rfl ?_
    refine x_iload_n (i := 12) (pc' := 17) rfl rfl rfl rfl ?_
    refine m_callV (i := 13) (pc' := 20) (av := [_]) (rest := [_]) rfl rfl (by decide) lX12_201 (sh76 G) rfl rfl rfl rfl rfl (Nat.le_of_ble_eq_true rfl) (Nat.le_refl _) (Nat.le_refl _) (s_X12_isVain hM hc hwd (by omega) ?_)
    dsimp only [psh]
    refine x_ifeq (i := 14) (pc' := 23) (tgt := 27) rfl rfl (by decide) ⟨by omega, by omega⟩ (fun c2 => ?_) (fun c2 => ?_)
    · skip
      refine x_iconst (i := 17) (pc' := 28) rfl rfl ?_
      refine x_iadd (i := 18) (pc' := 29) rfl rfl ?_
      refine x_istore_n (L' := [some _, some _, some _]) (i := 19) (pc' := 30) rfl rfl rfl rfl (by decide) rfl ?_
      refine x_iinc (L' := [some _, some _, some _]) (i := 20) (pc' := 33) rfl rfl rfl rfl (by decide) rfl ?_
      refine x_goto (i := 21) (pc' := 4) rfl (by decide) ?_
      (first | exact hk | (refine AW.le ?_ hk; simp [lvle]; done) | ((repeat' split at hk) <;> first | exact hk | (refine AW.le ?_ hk; simp [lvle]; done) | (exfalso; omega)))
    · skip
      refine x_iconst (i := 15) (pc' := 24) rfl rfl ?_
      refine x_goto (i := 16) (pc' := 28) rfl (by decide) ?_
      refine x_iadd (i := 18) (pc' := 29) rfl rfl ?_
      refine x_istore_n (L' := [some _, some _, some _]) (i := 19) (pc' := 30) rfl rfl rfl rfl (by decide) rfl ?_
      refine x_iinc (L' := [some _, some _, some _]) (i := 20) (pc' := 33) rfl rfl rfl rfl (by decide) rfl ?_
      refine x_goto (i := 21) (pc' := 4) rfl (by decide) ?_
      (first | exact hk | (refine AW.le ?_ hk; simp [lvle]; done) | ((repeat' split at hk) <;> first | exact hk | (refine AW.le ?_ hk; simp [lvle]; done) | (exfalso; omega)))
  · skip
    refine x_iload_n (i := 4) (pc' := 5) rfl rfl rfl rfl ?_
    refine x_aload_n (i := 5) (pc' := 6) rfl rfl rfl rfl ?_
    refine m_getf (i := 6) (pc' := 9) rfl rfl flX12_7 (sh76 G) rfl rfl ?_
    refine x_iconst (i := 7) (pc' := 10) rfl rfl ?_
    refine m_iald (i := 8) (pc' := 11) rfl rfl (sh77 G) (by decide) ⟨by omega, by omega⟩ ?_
    refine x_icmpge (i := 9) (pc' := 14) (tgt := 36) rfl rfl (by decide) ⟨by omega, by omega⟩ ⟨by omega, by omega⟩ (fun c1 => ?_) (fun c1 => by exfalso; omega)
    refine x_iload_n (i := 22) (pc' := 37) rfl rfl rfl rfl ?_
    exact m_ireturn (i := 23) rfl rfl (by rw [Int.sub_zero]; exact hQ)
theorem s_X12_spots {G : GG} {m : Mem} {Q : Option Value → Mem → Prop} (hc : CMd m) (hwd : WDn m) (hQ : Q (some (.int (J (spa m)))) m) : CM G 1 mX12_spots [.ref (G.2.2.2 76)] m Q := by
  refine CM.of dkX12_spots (Or.inl rfl) [some _, none, none, none] rfl (Nat.le_of_ble_eq_true rfl) ?_
  have hc0 := hc.1; have hc1 := hc.2
  refine x_iconst (i := 0) (pc' := 1) rfl rfl ?_
  refine x_istore_n (L' := [some _, some _, none, none]) (i := 1) (pc' := 2) rfl rfl rfl rfl (by decide) rfl ?_
  refine x_iconst (i := 2) (pc' := 3) rfl rfl ?_
  refine x_istore_n (L' := [some _, some _, some _, none]) (i := 3) (pc' := 4) rfl rfl rfl rfl (by decide) rfl ?_
  skip
  refine up_ind1 (P := fun (i : Int) (x : Int) => BW G 1 mX12_spots Q 4 [some (.ref (G.2.2.2 76)), some (.int (J (x))), some (.int (J (i))), none] [] m) (fun (i : Int) (x : Int) => spw m i x) (fun (i : Int) (x : Int) => 0 ≤ x) (m 77 1) (0) (0) (by omega) (by omega) (fun i x hj0 hj hi => it_I (I := fun x : Int => 0 ≤ x) _ _ _ (fun k z _ _ hz => io_nn _ _) hi) (fun i x hj0 hj hi hk => ?_) (fun hi => ?_)
  · skip
    refine x_iload_n (i := 4) (pc' := 5) rfl rfl rfl rfl ?_
    refine x_aload_n (i := 5) (pc' := 6) rfl rfl rfl rfl ?_
    refine m_getf (i := 6) (pc' := 9) rfl rfl flX12_7 (sh76 G) rfl rfl ?_
    refine x_iconst (i := 7) (pc' := 10) rfl rfl ?_
    refine m_iald (i := 8) (pc' := 11) rfl rfl (sh77 G) (by decide) ⟨by omega, by omega⟩ ?_
    refine x_icmpge (i := 9) (pc' := 14) (tgt := 58) rfl rfl (by decide) ⟨by omega, by omega⟩ ⟨by omega, by omega⟩ (fun c1 => by exfalso; omega) (fun c1 => ?_)
    refine x_iconst (i := 10) (pc' := 15) rfl rfl ?_
    refine x_istore_n (L' := [some _, some _, some _, some _]) (i := 11) (pc' := 16) rfl rfl rfl rfl (by decide) rfl ?_
    refine up_ind1 (P := fun (w : Int) (y : Int) => BW G 1 mX12_spots Q 16 [some (.ref (G.2.2.2 76)), some (.int (J (y))), some (.int (J (i))), some (.int (J (w)))] [] m) (fun (w : Int) (y : Int) => spr1 m i w y) (fun (w : Int) (y : Int) => 0 ≤ y) (3) (1) (x) (by omega) (hi) (fun w y hj02 hj2 hi2 => io_nn _ _) (fun w y hj02 hj2 hi2 hk2 => ?_) (fun hi2 => ?_)
    · have hw2 := hwd i (by omega) (by omega)
      have hw3 : -1 ≤ m 77 (82 + 3 * i + w) ∧ m 77 (82 + 3 * i + w) ≤ 5 := (by rcases (by omega : w = 1 ∨ w = 2) with rfl | rfl <;> omega)
      refine x_iload_n (i := 12) (pc' := 17) rfl rfl rfl rfl ?_
      refine x_iconst (i := 13) (pc' := 18) rfl rfl ?_
      refine x_icmpge (i := 14) (pc' := 21) (tgt := 52) rfl rfl (by decide) ⟨by omega, by omega⟩ ⟨by omega, by omega⟩ (fun e1 => by exfalso; omega) (fun e1 => ?_)
      refine x_iload_n (i := 15) (pc' := 22) rfl rfl rfl rfl ?_
      refine x_aload_n (i := 16) (pc' := 23) rfl rfl rfl rfl ?_
      refine x_iload_n (i := 17) (pc' := 24) rfl rfl rfl rfl ?_
      refine x_iload_n (i := 18) (pc' := 25) rfl rfl rfl rfl ?_
      refine m_callV (i := 19) (pc' := 28) (av := [_, _]) (rest := [_]) rfl rfl (by decide) lX12_171 (sh76 G) rfl rfl rfl rfl rfl (Nat.le_of_ble_eq_true rfl) (Nat.le_refl _) (Nat.le_refl _) (s_X12_said (by omega) (by omega) ?_)
      dsimp only [psh]
      refine x_iconst (i := 20) (pc' := 29) rfl rfl ?_
      refine x_icmpne (i := 21) (pc' := 32) (tgt := 36) rfl rfl (by decide) ⟨by omega, by omega⟩ ⟨by omega, by omega⟩ (fun e2 => ?_) (fun e2 => ?_)
      · skip
        refine x_iconst (i := 24) (pc' := 37) rfl rfl ?_
        refine x_aload_n (i := 25) (pc' := 38) rfl rfl rfl rfl ?_
        refine x_iload_n (i := 26) (pc' := 39) rfl rfl rfl rfl ?_
        refine x_iload_n (i := 27) (pc' := 40) rfl rfl rfl rfl ?_
        refine m_callV (i := 28) (pc' := 43) (av := [_, _]) (rest := [_, _]) rfl rfl (by decide) lX12_171 (sh76 G) rfl rfl rfl rfl rfl (Nat.le_of_ble_eq_true rfl) (Nat.le_refl _) (Nat.le_refl _) (s_X12_said (by omega) (by omega) ?_)
        dsimp only [psh]
        refine x_ishl (i := 29) (pc' := 44) rfl rfl (by first | omega | (exact Int.mul_nonneg (by omega) (Int.le_of_lt (Int.pow_pos (by omega))))) (by first | omega | (exact Int.mul_nonneg (by omega) (Int.le_of_lt (Int.pow_pos (by omega))))) ?_
        refine x_ior (i := 30) (pc' := 45) rfl rfl (by first | omega | (exact Int.mul_nonneg (by omega) (Int.le_of_lt (Int.pow_pos (by omega))))) (by first | omega | (exact Int.mul_nonneg (by omega) (Int.le_of_lt (Int.pow_pos (by omega))))) ?_
        refine x_istore_n (L' := [some _, some _, some _, some _]) (i := 31) (pc' := 46) rfl rfl rfl rfl (by decide) rfl ?_
        refine x_iinc (L' := [some _, some _, some _, some _]) (i := 32) (pc' := 49) rfl rfl rfl rfl (by decide) rfl ?_
        refine x_goto (i := 33) (pc' := 16) rfl (by decide) ?_
        (unfold spr1 at hk2; first | exact hk2 | (refine AW.le ?_ hk2; simp [lvle]; done) | ((repeat' split at hk2) <;> first | exact hk2 | (refine AW.le ?_ hk2; simp [lvle]; done) | (exfalso; omega)))
      · skip
        refine x_iconst (i := 22) (pc' := 33) rfl rfl ?_
        refine x_goto (i := 23) (pc' := 44) rfl (by decide) ?_
        refine x_ior (i := 30) (pc' := 45) rfl rfl (by first | omega | (exact Int.mul_nonneg (by omega) (Int.le_of_lt (Int.pow_pos (by omega))))) (by first | omega | (exact Int.mul_nonneg (by omega) (Int.le_of_lt (Int.pow_pos (by omega))))) ?_
        refine x_istore_n (L' := [some _, some _, some _, some _]) (i := 31) (pc' := 46) rfl rfl rfl rfl (by decide) rfl ?_
        refine x_iinc (L' := [some _, some _, some _, some _]) (i := 32) (pc' := 49) rfl rfl rfl rfl (by decide) rfl ?_
        refine x_goto (i := 33) (pc' := 16) rfl (by decide) ?_
        (unfold spr1 at hk2; first | exact hk2 | (refine AW.le ?_ hk2; simp [lvle]; done) | ((repeat' split at hk2) <;> first | exact hk2 | (refine AW.le ?_ hk2; simp [lvle]; done) | (exfalso; omega)))
    · skip
      refine x_iload_n (i := 12) (pc' := 17) rfl rfl rfl rfl ?_
      refine x_iconst (i := 13) (pc' := 18) rfl rfl ?_
      refine x_icmpge (i := 14) (pc' := 21) (tgt := 52) rfl rfl (by decide) ⟨by omega, by omega⟩ ⟨by omega, by omega⟩ (fun f1 => ?_) (fun f1 => by exfalso; omega)
      refine x_iinc (L' := [some _, some _, some _, some _]) (i := 34) (pc' := 55) rfl rfl rfl rfl (by decide) rfl ?_
      refine x_goto (i := 35) (pc' := 4) rfl (by decide) ?_
      (unfold spw at hk; first | exact hk | (refine AW.le ?_ hk; simp [lvle]; done) | ((repeat' split at hk) <;> first | exact hk | (refine AW.le ?_ hk; simp [lvle]; done) | (exfalso; omega)))
  · skip
    refine x_iload_n (i := 4) (pc' := 5) rfl rfl rfl rfl ?_
    refine x_aload_n (i := 5) (pc' := 6) rfl rfl rfl rfl ?_
    refine m_getf (i := 6) (pc' := 9) rfl rfl flX12_7 (sh76 G) rfl rfl ?_
    refine x_iconst (i := 7) (pc' := 10) rfl rfl ?_
    refine m_iald (i := 8) (pc' := 11) rfl rfl (sh77 G) (by decide) ⟨by omega, by omega⟩ ?_
    refine x_icmpge (i := 9) (pc' := 14) (tgt := 58) rfl rfl (by decide) ⟨by omega, by omega⟩ ⟨by omega, by omega⟩ (fun c1 => ?_) (fun c1 => by exfalso; omega)
    refine x_iload_n (i := 36) (pc' := 59) rfl rfl rfl rfl ?_
    exact m_ireturn (i := 37) rfl rfl (by rw [Int.sub_zero]; exact hQ)
theorem s_X12_way {G : GG} {m : Mem} {Q : Option Value → Mem → Prop} (hc : CMd m) (hwd : WDn m) (hl : LIE m) (hQ : Q (some (.int (J (way_ m)))) m) : CM G 1 mX12_way [.ref (G.2.2.2 76)] m Q := by
  refine CM.of dkX12_way (Or.inl rfl) [some _, none, none, none, none] rfl (Nat.le_of_ble_eq_true rfl) ?_
  have hc0 := hc.1; have hc1 := hc.2
  refine x_iconst (i := 0) (pc' := 1) rfl rfl ?_
  refine x_istore_n (L' := [some _, some _, none, none, none]) (i := 1) (pc' := 2) rfl rfl rfl rfl (by decide) rfl ?_
  refine x_iconst (i := 2) (pc' := 3) rfl rfl ?_
  refine x_istore_n (L' := [some _, some _, some _, none, none]) (i := 3) (pc' := 4) rfl rfl rfl rfl (by decide) rfl ?_
  refine x_iconst (i := 4) (pc' := 5) rfl rfl ?_
  refine x_istore_n (L' := [some _, some _, some _, some _, none]) (i := 5) (pc' := 6) rfl rfl rfl rfl (by decide) rfl ?_
  skip
  refine up_ind1 (P := fun (j : Int) (x : Int × Int) => BW G 1 mX12_way Q 6 [some (.ref (G.2.2.2 76)), some (.int (J (x.1))), some (.int (J (x.2))), some (.int (J (j))), none] [] m) (fun (j : Int) (x : Int × Int) => wyr m j x) (fun (j : Int) (x : Int × Int) => -1 ≤ x.2 ∧ x.2 ≤ 5) (2 * m 77 1) (0) ((0, -1)) (by omega) (by decide) (fun j x hj0 hj hi => by (have hw2 := hwd (j / 2) (by omega) (by omega); have hw3 : -1 ≤ m 77 (82 + 3 * (j / 2) + (1 + j % 2)) ∧ m 77 (82 + 3 * (j / 2) + (1 + j % 2)) ≤ 5 := (by rcases (by omega : j % 2 = 0 ∨ j % 2 = 1) with h | h <;> rw [h] <;> first | exact hw2.2.1 | exact hw2.2.2); unfold wyr; split <;> first | exact hi | exact hw3)) (fun j x hj0 hj hi hk => ?_) (fun hi => ?_)
  · have hw2 := hwd (j / 2) (by omega) (by omega)
    have hw3 : -1 ≤ m 77 (82 + 3 * (j / 2) + (1 + j % 2)) ∧ m 77 (82 + 3 * (j / 2) + (1 + j % 2)) ≤ 5 := (by rcases (by omega : j % 2 = 0 ∨ j % 2 = 1) with h | h <;> rw [h] <;> first | exact hw2.2.1 | exact hw2.2.2)
    refine x_iload_n (i := 6) (pc' := 7) rfl rfl rfl rfl ?_
    refine x_iconst (i := 7) (pc' := 8) rfl rfl ?_
    refine x_aload_n (i := 8) (pc' := 9) rfl rfl rfl rfl ?_
    refine m_getf (i := 9) (pc' := 12) rfl rfl flX12_7 (sh76 G) rfl rfl ?_
    refine x_iconst (i := 10) (pc' := 13) rfl rfl ?_
    refine m_iald (i := 11) (pc' := 14) rfl rfl (sh77 G) (by decide) ⟨by omega, by omega⟩ ?_
    refine x_imul (i := 12) (pc' := 15) rfl rfl ?_
    refine x_icmpge (i := 13) (pc' := 18) (tgt := 75) rfl rfl (by decide) ⟨by omega, by omega⟩ ⟨by omega, by omega⟩ (fun c1 => by exfalso; omega) (fun c1 => ?_)
    refine x_aload_n (i := 14) (pc' := 19) rfl rfl rfl rfl ?_
    refine x_iload_n (i := 15) (pc' := 20) rfl rfl rfl rfl ?_
    refine x_iconst (i := 16) (pc' := 21) rfl rfl ?_
    refine x_idiv (i := 17) (pc' := 22) rfl rfl ⟨by omega, by omega⟩ ⟨by omega, by omega⟩ (by omega) (by omega) ?_
    refine x_iconst (i := 18) (pc' := 23) rfl rfl ?_
    refine x_iload_n (i := 19) (pc' := 24) rfl rfl rfl rfl ?_
    refine x_iconst (i := 20) (pc' := 25) rfl rfl ?_
    refine x_irem (i := 21) (pc' := 26) rfl rfl ⟨by omega, by omega⟩ ⟨by omega, by omega⟩ (by omega) (by omega) ?_
    refine x_iadd (i := 22) (pc' := 27) rfl rfl ?_
    refine m_callV (i := 23) (pc' := 30) (av := [_, _]) (rest := []) rfl rfl (by decide) lX12_171 (sh76 G) rfl rfl rfl rfl rfl (Nat.le_of_ble_eq_true rfl) (Nat.le_refl _) (Nat.le_refl _) (s_X12_said (by omega) (by omega) ?_)
    dsimp only [psh]
    refine x_istore (L' := [some _, some _, some _, some _, some _]) (i := 24) (pc' := 32) rfl rfl rfl (by decide) rfl ?_
    refine x_iload (i := 25) (pc' := 34) rfl rfl rfl ?_
    refine x_iconst (i := 26) (pc' := 35) rfl rfl ?_
    refine x_icmpeq (i := 27) (pc' := 38) (tgt := 69) rfl rfl (by decide) ⟨by omega, by omega⟩ ⟨by omega, by omega⟩ (fun c2 => ?_) (fun c2 => ?_)
    · skip
      refine x_iinc (L' := [some _, some _, some _, some _, some _]) (i := 47) (pc' := 72) rfl rfl rfl rfl (by decide) rfl ?_
      refine x_goto (i := 48) (pc' := 6) rfl (by decide) ?_
      (unfold wyr at hk; first | exact hk | (refine AW.le ?_ hk; simp [lvle]; done) | ((repeat' split at hk) <;> first | exact hk | (refine AW.le ?_ hk; simp [lvle]; done) | (exfalso; omega)))
    · skip
      refine x_iload_n (i := 28) (pc' := 39) rfl rfl rfl rfl ?_
      refine x_iload_n (i := 29) (pc' := 40) rfl rfl rfl rfl ?_
      refine x_iconst (i := 30) (pc' := 41) rfl rfl ?_
      refine x_icmpne (i := 31) (pc' := 44) (tgt := 48) rfl rfl (by decide) ⟨by omega, by omega⟩ ⟨by omega, by omega⟩ (fun c3 => ?_) (fun c3 => ?_)
      · skip
        refine x_aload_n (i := 34) (pc' := 49) rfl rfl rfl rfl ?_
        refine m_getf (i := 35) (pc' := 52) rfl rfl flX12_19 (sh76 G) rfl rfl ?_
        refine x_iload_n (i := 36) (pc' := 53) rfl rfl rfl rfl ?_
        refine m_iald (i := 37) (pc' := 54) rfl rfl (sh80 G) (by decide) ⟨by omega, by omega⟩ ?_
        refine x_aload_n (i := 38) (pc' := 55) rfl rfl rfl rfl ?_
        refine m_getf (i := 39) (pc' := 58) rfl rfl flX12_19 (sh76 G) rfl rfl ?_
        refine x_iload (i := 40) (pc' := 60) rfl rfl rfl ?_
        refine m_iald (i := 41) (pc' := 61) rfl rfl (sh80 G) (by decide) ⟨by omega, by omega⟩ ?_
        refine m_callS (i := 42) (pc' := 64) (av := [_, _]) (rest := [_]) rfl rfl (by decide) lX12_124 rfl rfl (Nat.le_of_ble_eq_true rfl) (Nat.le_refl _) (Nat.le_refl _) (s_X12_off (by have := hl x.2 (by omega) (by omega); omega) (by have := hl _ (show 0 ≤ m 77 (82 + 3 * (j / 2) + (1 + j % 2)) by omega) hw3.2; omega) ?_)
        dsimp only [psh]
        refine x_iadd (i := 43) (pc' := 65) rfl rfl ?_
        refine x_istore_n (L' := [some _, some _, some _, some _, some _]) (i := 44) (pc' := 66) rfl rfl rfl rfl (by decide) rfl ?_
        refine x_iload (i := 45) (pc' := 68) rfl rfl rfl ?_
        refine x_istore_n (L' := [some _, some _, some _, some _, some _]) (i := 46) (pc' := 69) rfl rfl rfl rfl (by decide) rfl ?_
        refine x_iinc (L' := [some _, some _, some _, some _, some _]) (i := 47) (pc' := 72) rfl rfl rfl rfl (by decide) rfl ?_
        refine x_goto (i := 48) (pc' := 6) rfl (by decide) ?_
        (unfold wyr at hk; first | exact hk | (refine AW.le ?_ hk; simp [lvle]; done) | ((repeat' split at hk) <;> first | exact hk | (refine AW.le ?_ hk; simp [lvle]; done) | (exfalso; omega)))
      · skip
        refine x_iconst (i := 32) (pc' := 45) rfl rfl ?_
        refine x_goto (i := 33) (pc' := 64) rfl (by decide) ?_
        refine x_iadd (i := 43) (pc' := 65) rfl rfl ?_
        refine x_istore_n (L' := [some _, some _, some _, some _, some _]) (i := 44) (pc' := 66) rfl rfl rfl rfl (by decide) rfl ?_
        refine x_iload (i := 45) (pc' := 68) rfl rfl rfl ?_
        refine x_istore_n (L' := [some _, some _, some _, some _, some _]) (i := 46) (pc' := 69) rfl rfl rfl rfl (by decide) rfl ?_
        refine x_iinc (L' := [some _, some _, some _, some _, some _]) (i := 47) (pc' := 72) rfl rfl rfl rfl (by decide) rfl ?_
        refine x_goto (i := 48) (pc' := 6) rfl (by decide) ?_
        (unfold wyr at hk; first | exact hk | (refine AW.le ?_ hk; simp [lvle]; done) | ((repeat' split at hk) <;> first | exact hk | (refine AW.le ?_ hk; simp [lvle]; done) | (exfalso; omega)))
  · skip
    refine x_iload_n (i := 6) (pc' := 7) rfl rfl rfl rfl ?_
    refine x_iconst (i := 7) (pc' := 8) rfl rfl ?_
    refine x_aload_n (i := 8) (pc' := 9) rfl rfl rfl rfl ?_
    refine m_getf (i := 9) (pc' := 12) rfl rfl flX12_7 (sh76 G) rfl rfl ?_
    refine x_iconst (i := 10) (pc' := 13) rfl rfl ?_
    refine m_iald (i := 11) (pc' := 14) rfl rfl (sh77 G) (by decide) ⟨by omega, by omega⟩ ?_
    refine x_imul (i := 12) (pc' := 15) rfl rfl ?_
    refine x_icmpge (i := 13) (pc' := 18) (tgt := 75) rfl rfl (by decide) ⟨by omega, by omega⟩ ⟨by omega, by omega⟩ (fun c1 => ?_) (fun c1 => by exfalso; omega)
    refine x_iload_n (i := 49) (pc' := 76) rfl rfl rfl rfl ?_
    exact m_ireturn (i := 50) rfl rfl (by rw [Int.sub_zero]; exact hQ)
theorem lyw_ne (m : Mem) {q : Nat} (h : q ≠ 80) : lyw m q = m q := it_8 (fun i x => stm_ne _ _ _ h) _ _ _
def LWI (m : Mem) (j : Int) (x : Mem) : Prop := x 77 = m 77 ∧ ∀ s, 0 ≤ s → s < j → x 80 s = m 77 (134 + s)
theorem lw_I {m : Mem} {j : Int} {x : Mem} (h : LWI m j x) : LWI m (j + 1) (stm x 80 j (x 77 (134 + j))) := by
  refine ⟨(stm_ne _ _ _ (by decide)).trans h.1, fun s a b => ?_⟩
  by_cases hs : s = j
  · rw [hs, stm_eq, h.1]
  · rw [stm_ix _ _ _ hs]; exact h.2 s a (by omega)
theorem lyw_LIE {m : Mem} (h : POm m) : LIE (lyw m) := by
  have := it_Ij (f := fun s (x : Mem) => stm x 80 s (x 77 (134 + s))) (fun j x => LWI m j x) 6 0 m (fun i y _ _ hy => lw_I hy) ⟨rfl, fun s a b => by omega⟩
  intro s a b
  have e := this.2 s a (by omega)
  have e2 := h s a b
  unfold lyw
  rw [e]
  exact e2
theorem wn_tail {G : GG} {x : Mem} {Q : Option Value → Mem → Prop} {L1 : Option Value} (hc : CMd x) (hwd : WDn x) (hl : LIE x) (hQ : Q (some (.int (J (way_ x)))) x) : BW G 2 mX12_wayNow Q 30 [some (.ref (G.2.2.2 76)), L1] [] x := by
  refine x_aload_n (i := 17) (pc' := 31) rfl rfl rfl rfl ?_
  refine m_callV (i := 18) (pc' := 34) (av := []) (rest := []) rfl rfl (by decide) lX12_221 (sh76 G) rfl rfl rfl rfl rfl (Nat.le_of_ble_eq_true rfl) (Nat.le_refl _) (Nat.le_refl _) (s_X12_way hc hwd hl ?_)
  dsimp only [psh]
  exact m_ireturn (i := 19) rfl rfl (hQ)
theorem s_X12_wayNow {G : GG} {m : Mem} {Q : Option Value → Mem → Prop} (hc : CMd m) (hwd : WDn m) (hp : POm m) (hQ : Q (some (.int (J (way_ (lyw m))))) (lyw m)) : CM G 2 mX12_wayNow [.ref (G.2.2.2 76)] m Q := by
  refine CM.of dkX12_wayNow (Or.inl rfl) [some _, none] rfl (Nat.le_of_ble_eq_true rfl) ?_
  have e77 : lyw m 77 = m 77 := lyw_ne m (by decide)
  refine x_iconst (i := 0) (pc' := 1) rfl rfl ?_
  refine x_istore_n (L' := [some _, some _]) (i := 1) (pc' := 2) rfl rfl rfl rfl (by decide) rfl ?_
  skip
  refine up_ind0 (P := fun (j : Int) (x : Mem) => BW G 2 mX12_wayNow Q 2 [some (.ref (G.2.2.2 76)), some (.int (J (j)))] [] x) (fun (j : Int) (x : Mem) => stm x 80 j (x 77 (134 + j))) (6) (0) (m) (by omega) (fun j x hj0 hj hk => ?_) ?_
  · skip
    refine x_iload_n (i := 2) (pc' := 3) rfl rfl rfl rfl ?_
    refine x_bipush (i := 3) (pc' := 5) rfl rfl (by decide) ?_
    refine x_icmpge (i := 4) (pc' := 8) (tgt := 30) rfl rfl (by decide) ⟨by omega, by omega⟩ ⟨by omega, by omega⟩ (fun c1 => by exfalso; omega) (fun c1 => ?_)
    refine x_aload_n (i := 5) (pc' := 9) rfl rfl rfl rfl ?_
    refine m_getf (i := 6) (pc' := 12) rfl rfl flX12_19 (sh76 G) rfl rfl ?_
    refine x_iload_n (i := 7) (pc' := 13) rfl rfl rfl rfl ?_
    refine x_aload_n (i := 8) (pc' := 14) rfl rfl rfl rfl ?_
    refine m_getf (i := 9) (pc' := 17) rfl rfl flX12_7 (sh76 G) rfl rfl ?_
    refine x_sipush (i := 10) (pc' := 20) rfl rfl (by decide) ?_
    refine x_iload_n (i := 11) (pc' := 21) rfl rfl rfl rfl ?_
    refine x_iadd (i := 12) (pc' := 22) rfl rfl ?_
    refine m_iald (i := 13) (pc' := 23) rfl rfl (sh77 G) (by decide) ⟨by omega, by omega⟩ ?_
    refine m_iast (i := 14) (pc' := 24) rfl rfl (sh80 G) (by decide) ⟨by omega, by omega⟩ ?_
    refine x_iinc (L' := [some _, some _]) (i := 15) (pc' := 27) rfl rfl rfl rfl (by decide) rfl ?_
    refine x_goto (i := 16) (pc' := 2) rfl (by decide) ?_
    (first | exact hk | (refine AW.le ?_ hk; simp [lvle]; done) | ((repeat' split at hk) <;> first | exact hk | (refine AW.le ?_ hk; simp [lvle]; done) | (exfalso; omega)))
  · skip
    refine x_iload_n (i := 2) (pc' := 3) rfl rfl rfl rfl ?_
    refine x_bipush (i := 3) (pc' := 5) rfl rfl (by decide) ?_
    refine x_icmpge (i := 4) (pc' := 8) (tgt := 30) rfl rfl (by decide) ⟨by omega, by omega⟩ ⟨by omega, by omega⟩ (fun c1 => ?_) (fun c1 => by exfalso; omega)
    exact wn_tail (x := lyw m) (by unfold CMd; rw [e77]; exact hc) (by unfold WDn; rw [e77]; exact hwd) (lyw_LIE hp) hQ
def alr (m : Mem) (w : Int) : Int := if w = 0 then m 77 1 else if w = 1 then cls m else if w = 2 then vna m else if w = 3 then soa m else if w = 4 then mvd m else if w = 5 then way_ (lyw m) else if w = 6 then spa m else -2
def alx (m : Mem) (w : Int) : Mem := if w = 5 then lyw m else if 0 ≤ w ∧ w ≤ 6 then m else rfm m (-2)
theorem s_X12_all {G : GG} {m : Mem} {Q : Option Value → Mem → Prop} {a : Int} (h : GM m) (ra : rg a) (hQ : Q (some (.int (J (alr m a)))) (alx m a)) : CM G 6 mX12_all [.ref (G.2.2.2 76), .int (J (a))] m Q := by
  refine CM.of dkX12_all (Or.inl rfl) [some _, some _] rfl (Nat.le_of_ble_eq_true rfl) ?_
  obtain ⟨hM, ⟨hn, hc, hv, hst, hw, hwd, hpo⟩, hst5, hle, her⟩ := h
  have hn0 := hn.1; have hn1 := hn.2; have hc0 := hc.1; have hc1 := hc.2
  have hwn := hwd.n hn
  refine x_iload_n (i := 0) (pc' := 1) rfl rfl rfl rfl ?_
  rcases (by omega : a = 0 ∨ a = 1 ∨ a = 2 ∨ a = 3 ∨ a = 4 ∨ a = 5 ∨ a = 6 ∨ (a < 0 ∨ 6 < a)) with c1 | c1 | c1 | c1 | c1 | c1 | c1 | c1
  · first | (exfalso; omega; done) | skip
    all_goals (
      refine x_tableIn (i := 1) (v := 0) (off := 43) (tgt := 44) rfl c1 ⟨by decide, by decide⟩ (by decide) (by decide) rfl (by decide) ?_
      refine x_aload_n (i := 2) (pc' := 45) rfl rfl rfl rfl ?_
      refine m_getf (i := 3) (pc' := 48) rfl rfl flX12_7 (sh76 G) rfl rfl ?_
      refine x_iconst (i := 4) (pc' := 49) rfl rfl ?_
      refine m_iald (i := 5) (pc' := 50) rfl rfl (sh77 G) (by decide) ⟨by omega, by omega⟩ ?_
      exact m_ireturn (i := 6) rfl rfl (by unfold alr alx at hQ; (repeat' split at hQ) <;> first | (exfalso; omega; done) | exact hQ)
      skip)
  · first | (exfalso; omega; done) | skip
    all_goals (
      refine x_tableIn (i := 1) (v := 1) (off := 50) (tgt := 51) rfl c1 ⟨by decide, by decide⟩ (by decide) (by decide) rfl (by decide) ?_
      refine x_aload_n (i := 7) (pc' := 52) rfl rfl rfl rfl ?_
      refine m_callV (i := 8) (pc' := 55) (av := []) (rest := []) rfl rfl (by decide) lX12_215 (sh76 G) rfl rfl rfl rfl rfl (Nat.le_of_ble_eq_true rfl) (Nat.le_refl _) (Nat.le_refl _) (s_X12_clauses hM hc hwn ?_)
      dsimp only [psh]
      exact m_ireturn (i := 9) rfl rfl (by unfold alr alx at hQ; (repeat' split at hQ) <;> first | (exfalso; omega; done) | exact hQ)
      skip)
  · first | (exfalso; omega; done) | skip
    all_goals (
      refine x_tableIn (i := 1) (v := 2) (off := 55) (tgt := 56) rfl c1 ⟨by decide, by decide⟩ (by decide) (by decide) rfl (by decide) ?_
      refine x_aload_n (i := 10) (pc' := 57) rfl rfl rfl rfl ?_
      refine m_callV (i := 11) (pc' := 60) (av := []) (rest := []) rfl rfl (by decide) lX12_224 (sh76 G) rfl rfl rfl rfl rfl (Nat.le_of_ble_eq_true rfl) (Nat.le_refl _) (Nat.le_refl _) (s_X12_vain hM hc hwn ?_)
      dsimp only [psh]
      exact m_ireturn (i := 12) rfl rfl (by unfold alr alx at hQ; (repeat' split at hQ) <;> first | (exfalso; omega; done) | exact hQ)
      skip)
  · first | (exfalso; omega; done) | skip
    all_goals (
      refine x_tableIn (i := 1) (v := 3) (off := 60) (tgt := 61) rfl c1 ⟨by decide, by decide⟩ (by decide) (by decide) rfl (by decide) ?_
      refine x_aload_n (i := 13) (pc' := 62) rfl rfl rfl rfl ?_
      refine m_callV (i := 14) (pc' := 65) (av := []) (rest := []) rfl rfl (by decide) lX12_227 (sh76 G) rfl rfl rfl rfl rfl (Nat.le_of_ble_eq_true rfl) (Nat.le_refl _) (Nat.le_refl _) (s_X12_swapsOfAll hM hc hwn ?_)
      dsimp only [psh]
      exact m_ireturn (i := 15) rfl rfl (by unfold alr alx at hQ; (repeat' split at hQ) <;> first | (exfalso; omega; done) | exact hQ)
      skip)
  · first | (exfalso; omega; done) | skip
    all_goals (
      refine x_tableIn (i := 1) (v := 4) (off := 65) (tgt := 66) rfl c1 ⟨by decide, by decide⟩ (by decide) (by decide) rfl (by decide) ?_
      refine x_aload_n (i := 16) (pc' := 67) rfl rfl rfl rfl ?_
      refine m_callV (i := 17) (pc' := 70) (av := []) (rest := []) rfl rfl (by decide) lX12_230 (sh76 G) rfl rfl rfl rfl rfl (Nat.le_of_ble_eq_true rfl) (Nat.le_refl _) (Nat.le_refl _) (s_X12_moved hM hc hwn ?_)
      dsimp only [psh]
      exact m_ireturn (i := 18) rfl rfl (by unfold alr alx at hQ; (repeat' split at hQ) <;> first | (exfalso; omega; done) | exact hQ)
      skip)
  · first | (exfalso; omega; done) | skip
    all_goals (
      refine x_tableIn (i := 1) (v := 5) (off := 70) (tgt := 71) rfl c1 ⟨by decide, by decide⟩ (by decide) (by decide) rfl (by decide) ?_
      refine x_aload_n (i := 19) (pc' := 72) rfl rfl rfl rfl ?_
      refine m_callV (i := 20) (pc' := 75) (av := []) (rest := []) rfl rfl (by decide) lX12_233 (sh76 G) rfl rfl rfl rfl rfl (Nat.le_of_ble_eq_true rfl) (Nat.le_refl _) (Nat.le_refl _) (s_X12_wayNow hc hwn hpo ?_)
      dsimp only [psh]
      exact m_ireturn (i := 21) rfl rfl (by unfold alr alx at hQ; (repeat' split at hQ) <;> first | (exfalso; omega; done) | exact hQ)
      skip)
  · first | (exfalso; omega; done) | skip
    all_goals (
      refine x_tableIn (i := 1) (v := 6) (off := 75) (tgt := 76) rfl c1 ⟨by decide, by decide⟩ (by decide) (by decide) rfl (by decide) ?_
      refine x_aload_n (i := 22) (pc' := 77) rfl rfl rfl rfl ?_
      refine m_callV (i := 23) (pc' := 80) (av := []) (rest := []) rfl rfl (by decide) lX12_236 (sh76 G) rfl rfl rfl rfl rfl (Nat.le_of_ble_eq_true rfl) (Nat.le_refl _) (Nat.le_refl _) (s_X12_spots hc hwn ?_)
      dsimp only [psh]
      exact m_ireturn (i := 24) rfl rfl (by unfold alr alx at hQ; (repeat' split at hQ) <;> first | (exfalso; omega; done) | exact hQ)
      skip)
  · first | (exfalso; omega; done) | skip
    all_goals (
      refine x_tableOut (i := 1) (tgt := 81) rfl ⟨by omega, by omega⟩ c1 (by decide) ?_
      refine x_aload_n (i := 25) (pc' := 82) rfl rfl rfl rfl ?_
      refine x_bipush (i := 26) (pc' := 84) rfl rfl (by decide) ?_
      refine m_callV (i := 27) (pc' := 87) (av := [_]) (rest := []) rfl rfl (by decide) lX12_69 (sh76 G) rfl rfl rfl rfl rfl (Nat.le_of_ble_eq_true rfl) (Nat.le_refl _) (Nat.le_refl _) (s_X12_refuses (by omega) ?_)
      dsimp only [psh]
      exact m_ireturn (i := 28) rfl rfl (by unfold alr alx at hQ; (repeat' split at hQ) <;> first | (exfalso; omega; done) | exact hQ)
      skip)
