theorem J_m1 : J (-1) = J 4294967295 := by decide
def tw (t : Int) : Nat → Int → Int → Int
  | 0, _, v => v
  | c + 1, q, v => if ia (t / 2 ^ v.toNat) 1 = 1 then (if q ≤ 0 then v else tw t c (q - 1) (v + 1)) else tw t c (q - 0) (v + 1)
def tok (t : Int) : Nat → Int → Int → Bool
  | 0, _, _ => false
  | c + 1, q, v => if ia (t / 2 ^ v.toNat) 1 = 1 then (if q ≤ 0 then true else tok t c (q - 1) (v + 1)) else tok t c (q - 0) (v + 1)
theorem tw_le (t : Int) : ∀ (c : Nat) (q v : Int), v + c = 6 → 0 ≤ v → tok t c q v = true → 0 ≤ tw t c q v ∧ tw t c q v ≤ 5
  | 0, q, v, h, h0, hk => by simp [tok] at hk
  | c + 1, q, v, h, h0, hk => by
    unfold tok at hk
    unfold tw
    by_cases h1 : ia (t / 2 ^ v.toNat) 1 = 1
    · rw [if_pos h1] at hk ⊢
      by_cases h2 : q ≤ 0
      · rw [if_pos h2]; omega
      · rw [if_neg h2] at hk ⊢
        exact tw_le t c _ _ (by omega) (by omega) hk
    · rw [if_neg h1] at hk ⊢
      exact tw_le t c _ _ (by omega) (by omega) hk
def fct (s : Int) : Int := it (fun n x => x * n) 2 (4 - s).toNat 1
theorem fct_le {s : Int} (h : 0 ≤ s ∧ s ≤ 5) : 1 ≤ fct s ∧ fct s ≤ 120 := by
  rcases (by omega : s = 0 ∨ s = 1 ∨ s = 2 ∨ s = 3 ∨ s = 4 ∨ s = 5) with rfl | rfl | rfl | rfl | rfl | rfl <;> decide
def tvv (s : Int) (y : Int × Int) : Int := tw y.2 6 (y.1 / fct s) 0
def tr1 (s : Int) (y : Int × Int) : Int × Int := (y.1 % fct s, ia y.2 (ix (1 * 2 ^ (tvv s y).toNat) 4294967295))
def tck (s : Int) (y : Int × Int) : Bool := tok y.2 6 (y.1 / fct s) 0 && (decide (0 ≤ y.1 ∧ y.1 < 720) && decide (0 ≤ y.2 ∧ y.2 < 64))
def tcl : Nat → Int → Int × Int → Bool
  | 0, _, _ => true
  | c + 1, s, y => tck s y && tcl c (s + 1) (tr1 s y)
theorem tcl_all : ∀ k : Nat, k < 720 → tcl 6 0 ((k : Int), 63) = true := by decide +kernel
theorem tcl_at {s : Int} {y : Int × Int} (h : tcl (6 - s).toNat s y = true) (h6 : s < 6) : (tok y.2 6 (y.1 / fct s) 0 = true ∧ (0 ≤ y.1 ∧ y.1 < 720) ∧ (0 ≤ y.2 ∧ y.2 < 64)) ∧ tcl (6 - (s + 1)).toNat (s + 1) (tr1 s y) = true := by
  obtain ⟨c, hc⟩ : ∃ c : Nat, (6 - s).toNat = c + 1 := ⟨(6 - s).toNat - 1, by omega⟩
  have hc2 : (6 - (s + 1)).toNat = c := by omega
  rw [hc] at h
  rw [hc2]
  unfold tcl at h
  rw [Bool.and_eq_true] at h
  refine ⟨?_, h.2⟩
  have h1 := h.1
  unfold tck at h1
  rw [Bool.and_eq_true, Bool.and_eq_true, decide_eq_true_iff, decide_eq_true_iff] at h1
  exact h1
def trf (s : Int) (x : (Int × Int) × Mem) : (Int × Int) × Mem := (tr1 s x.1, stm x.2 80 s (tvv s x.1))
def trm (k : Int) (m : Mem) : Mem := (it (fun s x => trf s x) 0 6 ((k, 63), m)).2
theorem tr_w {G : GG} {m : Mem} {Q : Option Value → Mem → Prop} {k l t s : Int} (hs : 0 ≤ s ∧ s ≤ 5) : ∀ (c : Nat) (n x : Int), 2 ≤ n → n ≤ 6 → (n + c = 6 - s ∨ (c = 0 ∧ 6 - s ≤ n)) → BW G 1 mX12_tries Q 44 [some (.ref (G.2.2.2 76)), some (.int (J (k))), some (.int (J (l))), some (.int (J (t))), some (.int (J (s))), some (.int (J (it (fun n x => x * n) n c x))), none, none] [] m → BW G 1 mX12_tries Q 21 [some (.ref (G.2.2.2 76)), some (.int (J (k))), some (.int (J (l))), some (.int (J (t))), some (.int (J (s))), some (.int (J (x))), some (.int (J (n))), none] [] m := by
  intro c
  induction c with
  | zero =>
    intro n x h1 h2 h3 h
    unfold it at h
    refine x_iload (i := 13) (pc' := 23) rfl rfl rfl ?_
    refine x_bipush (i := 14) (pc' := 25) rfl rfl (by decide) ?_
    refine x_iload (i := 15) (pc' := 27) rfl rfl rfl ?_
    refine x_isub (i := 16) (pc' := 28) rfl rfl ?_
    refine x_icmpge (i := 17) (pc' := 31) (tgt := 44) rfl rfl (by decide) ⟨by omega, by omega⟩ ⟨by omega, by omega⟩ (fun c1 => ?_) (fun c1 => by exfalso; omega)
    (refine AW.le ?_ h; simp [lvle]; done)
  | succ c ih =>
    intro n x h1 h2 h3 h
    unfold it at h
    refine x_iload (i := 13) (pc' := 23) rfl rfl rfl ?_
    refine x_bipush (i := 14) (pc' := 25) rfl rfl (by decide) ?_
    refine x_iload (i := 15) (pc' := 27) rfl rfl rfl ?_
    refine x_isub (i := 16) (pc' := 28) rfl rfl ?_
    refine x_icmpge (i := 17) (pc' := 31) (tgt := 44) rfl rfl (by decide) ⟨by omega, by omega⟩ ⟨by omega, by omega⟩ (fun c1 => by exfalso; omega) (fun c1 => ?_)
    refine x_iload (i := 18) (pc' := 33) rfl rfl rfl ?_
    refine x_iload (i := 19) (pc' := 35) rfl rfl rfl ?_
    refine x_imul (i := 20) (pc' := 36) rfl rfl ?_
    refine x_istore (L' := [some _, some _, some _, some _, some _, some _, some _, none]) (i := 21) (pc' := 38) rfl rfl rfl (by decide) rfl ?_
    refine x_iinc (L' := [some _, some _, some _, some _, some _, some _, some _, none]) (i := 22) (pc' := 41) rfl rfl rfl rfl (by decide) rfl ?_
    refine x_goto (i := 23) (pc' := 21) rfl (by decide) ?_
    exact ih (n + 1) (x * n) (by omega) (by omega) (by omega) h
theorem tr_v {G : GG} {m : Mem} {Q : Option Value → Mem → Prop} {k l t s w : Int} (ht : 0 ≤ t ∧ t < 64) : ∀ (c : Nat) (q v : Int), v + c = 6 → 0 ≤ v → (-100 ≤ q - c ∧ q ≤ 1000) → tok t c q v = true → BW G 1 mX12_tries Q 97 [some (.ref (G.2.2.2 76)), some (.int (J (k))), some (.int (J (l))), some (.int (J (t))), some (.int (J (s))), some (.int (J (w))), none, some (.int (J (tw t c q v)))] [] m → BW G 1 mX12_tries Q 58 [some (.ref (G.2.2.2 76)), some (.int (J (k))), some (.int (J (l))), some (.int (J (t))), some (.int (J (s))), some (.int (J (w))), some (.int (J (q))), some (.int (J (v)))] [] m := by
  intro c
  induction c with
  | zero =>
    intro q v h1 h2 h3 hk h
    simp [tok] at hk
  | succ c ih =>
    intro q v h1 h2 h3 hk h
    unfold tok at hk
    unfold tw at h
    by_cases hb : ia (t / 2 ^ v.toNat) 1 = 1
    · rw [if_pos hb] at hk h
      by_cases hq : q ≤ 0
      · rw [if_pos hq] at hk h
        refine x_iload_n (i := 34) (pc' := 59) rfl rfl rfl rfl ?_
        refine x_iload (i := 35) (pc' := 61) rfl rfl rfl ?_
        refine m_callS (i := 36) (pc' := 64) (av := [_, _]) (rest := []) rfl rfl (by decide) lX12_151 rfl rfl (Nat.le_of_ble_eq_true rfl) (Nat.le_refl _) (Nat.le_refl _) (s_X12_has (by omega) (by omega) ?_)
        dsimp only [psh]
        rw [if_pos hb]
        refine x_ifeq (i := 37) (pc' := 67) (tgt := 72) rfl rfl (by decide) ⟨by omega, by omega⟩ (fun c1 => ?_) (fun c1 => ?_)
        · first | (exfalso; omega; done) | skip
          all_goals (
            refine x_iload (i := 40) (pc' := 74) rfl rfl rfl ?_
            refine x_iload_n (i := 41) (pc' := 75) rfl rfl rfl rfl ?_
            refine x_iload (i := 42) (pc' := 77) rfl rfl rfl ?_
            refine m_callS (i := 43) (pc' := 80) (av := [_, _]) (rest := [_]) rfl rfl (by decide) lX12_151 rfl rfl (Nat.le_of_ble_eq_true rfl) (Nat.le_refl _) (Nat.le_refl _) (s_X12_has (by omega) (by omega) ?_)
            dsimp only [psh]
            rw [if_pos hb]
            refine x_ifeq (i := 44) (pc' := 83) (tgt := 87) rfl rfl (by decide) ⟨by omega, by omega⟩ (fun c2 => ?_) (fun c2 => ?_)
            · first | (exfalso; omega; done) | skip
              all_goals (
                refine x_iconst (i := 47) (pc' := 88) rfl rfl ?_
                refine x_isub (i := 48) (pc' := 89) rfl rfl ?_
                refine x_istore (L' := [some _, some _, some _, some _, some _, some _, some _, some _]) (i := 49) (pc' := 91) rfl rfl rfl (by decide) rfl ?_
                refine x_iinc (L' := [some _, some _, some _, some _, some _, some _, some _, some _]) (i := 50) (pc' := 94) rfl rfl rfl rfl (by decide) rfl ?_
                refine x_goto (i := 51) (pc' := 58) rfl (by decide) ?_
                exact ih _ _ (by omega) (by omega) (by omega) hk h
                skip)
            · first | (exfalso; omega; done) | skip
              all_goals (
                refine x_iconst (i := 45) (pc' := 84) rfl rfl ?_
                refine x_goto (i := 46) (pc' := 88) rfl (by decide) ?_
                refine x_isub (i := 48) (pc' := 89) rfl rfl ?_
                refine x_istore (L' := [some _, some _, some _, some _, some _, some _, some _, some _]) (i := 49) (pc' := 91) rfl rfl rfl (by decide) rfl ?_
                refine x_iinc (L' := [some _, some _, some _, some _, some _, some _, some _, some _]) (i := 50) (pc' := 94) rfl rfl rfl rfl (by decide) rfl ?_
                refine x_goto (i := 51) (pc' := 58) rfl (by decide) ?_
                exact ih _ _ (by omega) (by omega) (by omega) hk h
                skip)
            skip)
        · first | (exfalso; omega; done) | skip
          all_goals (
            refine x_iload (i := 38) (pc' := 69) rfl rfl rfl ?_
            refine x_ifle (i := 39) (pc' := 72) (tgt := 97) rfl rfl (by decide) ⟨by omega, by omega⟩ (fun c3 => ?_) (fun c3 => ?_)
            · first | (exfalso; omega; done) | skip
              all_goals (
                (refine AW.le ?_ h; simp [lvle]; done)
                skip)
            · first | (exfalso; omega; done) | skip
              all_goals (
                refine x_iload (i := 40) (pc' := 74) rfl rfl rfl ?_
                refine x_iload_n (i := 41) (pc' := 75) rfl rfl rfl rfl ?_
                refine x_iload (i := 42) (pc' := 77) rfl rfl rfl ?_
                refine m_callS (i := 43) (pc' := 80) (av := [_, _]) (rest := [_]) rfl rfl (by decide) lX12_151 rfl rfl (Nat.le_of_ble_eq_true rfl) (Nat.le_refl _) (Nat.le_refl _) (s_X12_has (by omega) (by omega) ?_)
                dsimp only [psh]
                rw [if_pos hb]
                refine x_ifeq (i := 44) (pc' := 83) (tgt := 87) rfl rfl (by decide) ⟨by omega, by omega⟩ (fun c4 => ?_) (fun c4 => ?_)
                · first | (exfalso; omega; done) | skip
                  all_goals (
                    refine x_iconst (i := 47) (pc' := 88) rfl rfl ?_
                    refine x_isub (i := 48) (pc' := 89) rfl rfl ?_
                    refine x_istore (L' := [some _, some _, some _, some _, some _, some _, some _, some _]) (i := 49) (pc' := 91) rfl rfl rfl (by decide) rfl ?_
                    refine x_iinc (L' := [some _, some _, some _, some _, some _, some _, some _, some _]) (i := 50) (pc' := 94) rfl rfl rfl rfl (by decide) rfl ?_
                    refine x_goto (i := 51) (pc' := 58) rfl (by decide) ?_
                    exact ih _ _ (by omega) (by omega) (by omega) hk h
                    skip)
                · first | (exfalso; omega; done) | skip
                  all_goals (
                    refine x_iconst (i := 45) (pc' := 84) rfl rfl ?_
                    refine x_goto (i := 46) (pc' := 88) rfl (by decide) ?_
                    refine x_isub (i := 48) (pc' := 89) rfl rfl ?_
                    refine x_istore (L' := [some _, some _, some _, some _, some _, some _, some _, some _]) (i := 49) (pc' := 91) rfl rfl rfl (by decide) rfl ?_
                    refine x_iinc (L' := [some _, some _, some _, some _, some _, some _, some _, some _]) (i := 50) (pc' := 94) rfl rfl rfl rfl (by decide) rfl ?_
                    refine x_goto (i := 51) (pc' := 58) rfl (by decide) ?_
                    exact ih _ _ (by omega) (by omega) (by omega) hk h
                    skip)
                skip)
            skip)
      · rw [if_neg hq] at hk h
        refine x_iload_n (i := 34) (pc' := 59) rfl rfl rfl rfl ?_
        refine x_iload (i := 35) (pc' := 61) rfl rfl rfl ?_
        refine m_callS (i := 36) (pc' := 64) (av := [_, _]) (rest := []) rfl rfl (by decide) lX12_151 rfl rfl (Nat.le_of_ble_eq_true rfl) (Nat.le_refl _) (Nat.le_refl _) (s_X12_has (by omega) (by omega) ?_)
        dsimp only [psh]
        rw [if_pos hb]
        refine x_ifeq (i := 37) (pc' := 67) (tgt := 72) rfl rfl (by decide) ⟨by omega, by omega⟩ (fun c1 => ?_) (fun c1 => ?_)
        · first | (exfalso; omega; done) | skip
          all_goals (
            refine x_iload (i := 40) (pc' := 74) rfl rfl rfl ?_
            refine x_iload_n (i := 41) (pc' := 75) rfl rfl rfl rfl ?_
            refine x_iload (i := 42) (pc' := 77) rfl rfl rfl ?_
            refine m_callS (i := 43) (pc' := 80) (av := [_, _]) (rest := [_]) rfl rfl (by decide) lX12_151 rfl rfl (Nat.le_of_ble_eq_true rfl) (Nat.le_refl _) (Nat.le_refl _) (s_X12_has (by omega) (by omega) ?_)
            dsimp only [psh]
            rw [if_pos hb]
            refine x_ifeq (i := 44) (pc' := 83) (tgt := 87) rfl rfl (by decide) ⟨by omega, by omega⟩ (fun c2 => ?_) (fun c2 => ?_)
            · first | (exfalso; omega; done) | skip
              all_goals (
                refine x_iconst (i := 47) (pc' := 88) rfl rfl ?_
                refine x_isub (i := 48) (pc' := 89) rfl rfl ?_
                refine x_istore (L' := [some _, some _, some _, some _, some _, some _, some _, some _]) (i := 49) (pc' := 91) rfl rfl rfl (by decide) rfl ?_
                refine x_iinc (L' := [some _, some _, some _, some _, some _, some _, some _, some _]) (i := 50) (pc' := 94) rfl rfl rfl rfl (by decide) rfl ?_
                refine x_goto (i := 51) (pc' := 58) rfl (by decide) ?_
                exact ih _ _ (by omega) (by omega) (by omega) hk h
                skip)
            · first | (exfalso; omega; done) | skip
              all_goals (
                refine x_iconst (i := 45) (pc' := 84) rfl rfl ?_
                refine x_goto (i := 46) (pc' := 88) rfl (by decide) ?_
                refine x_isub (i := 48) (pc' := 89) rfl rfl ?_
                refine x_istore (L' := [some _, some _, some _, some _, some _, some _, some _, some _]) (i := 49) (pc' := 91) rfl rfl rfl (by decide) rfl ?_
                refine x_iinc (L' := [some _, some _, some _, some _, some _, some _, some _, some _]) (i := 50) (pc' := 94) rfl rfl rfl rfl (by decide) rfl ?_
                refine x_goto (i := 51) (pc' := 58) rfl (by decide) ?_
                exact ih _ _ (by omega) (by omega) (by omega) hk h
                skip)
            skip)
        · first | (exfalso; omega; done) | skip
          all_goals (
            refine x_iload (i := 38) (pc' := 69) rfl rfl rfl ?_
            refine x_ifle (i := 39) (pc' := 72) (tgt := 97) rfl rfl (by decide) ⟨by omega, by omega⟩ (fun c3 => ?_) (fun c3 => ?_)
            · first | (exfalso; omega; done) | skip
              all_goals (
                (refine AW.le ?_ h; simp [lvle]; done)
                skip)
            · first | (exfalso; omega; done) | skip
              all_goals (
                refine x_iload (i := 40) (pc' := 74) rfl rfl rfl ?_
                refine x_iload_n (i := 41) (pc' := 75) rfl rfl rfl rfl ?_
                refine x_iload (i := 42) (pc' := 77) rfl rfl rfl ?_
                refine m_callS (i := 43) (pc' := 80) (av := [_, _]) (rest := [_]) rfl rfl (by decide) lX12_151 rfl rfl (Nat.le_of_ble_eq_true rfl) (Nat.le_refl _) (Nat.le_refl _) (s_X12_has (by omega) (by omega) ?_)
                dsimp only [psh]
                rw [if_pos hb]
                refine x_ifeq (i := 44) (pc' := 83) (tgt := 87) rfl rfl (by decide) ⟨by omega, by omega⟩ (fun c4 => ?_) (fun c4 => ?_)
                · first | (exfalso; omega; done) | skip
                  all_goals (
                    refine x_iconst (i := 47) (pc' := 88) rfl rfl ?_
                    refine x_isub (i := 48) (pc' := 89) rfl rfl ?_
                    refine x_istore (L' := [some _, some _, some _, some _, some _, some _, some _, some _]) (i := 49) (pc' := 91) rfl rfl rfl (by decide) rfl ?_
                    refine x_iinc (L' := [some _, some _, some _, some _, some _, some _, some _, some _]) (i := 50) (pc' := 94) rfl rfl rfl rfl (by decide) rfl ?_
                    refine x_goto (i := 51) (pc' := 58) rfl (by decide) ?_
                    exact ih _ _ (by omega) (by omega) (by omega) hk h
                    skip)
                · first | (exfalso; omega; done) | skip
                  all_goals (
                    refine x_iconst (i := 45) (pc' := 84) rfl rfl ?_
                    refine x_goto (i := 46) (pc' := 88) rfl (by decide) ?_
                    refine x_isub (i := 48) (pc' := 89) rfl rfl ?_
                    refine x_istore (L' := [some _, some _, some _, some _, some _, some _, some _, some _]) (i := 49) (pc' := 91) rfl rfl rfl (by decide) rfl ?_
                    refine x_iinc (L' := [some _, some _, some _, some _, some _, some _, some _, some _]) (i := 50) (pc' := 94) rfl rfl rfl rfl (by decide) rfl ?_
                    refine x_goto (i := 51) (pc' := 58) rfl (by decide) ?_
                    exact ih _ _ (by omega) (by omega) (by omega) hk h
                    skip)
                skip)
            skip)
    · rw [if_neg hb] at hk h
      refine x_iload_n (i := 34) (pc' := 59) rfl rfl rfl rfl ?_
      refine x_iload (i := 35) (pc' := 61) rfl rfl rfl ?_
      refine m_callS (i := 36) (pc' := 64) (av := [_, _]) (rest := []) rfl rfl (by decide) lX12_151 rfl rfl (Nat.le_of_ble_eq_true rfl) (Nat.le_refl _) (Nat.le_refl _) (s_X12_has (by omega) (by omega) ?_)
      dsimp only [psh]
      rw [if_neg hb]
      refine x_ifeq (i := 37) (pc' := 67) (tgt := 72) rfl rfl (by decide) ⟨by omega, by omega⟩ (fun c1 => ?_) (fun c1 => ?_)
      · first | (exfalso; omega; done) | skip
        all_goals (
          refine x_iload (i := 40) (pc' := 74) rfl rfl rfl ?_
          refine x_iload_n (i := 41) (pc' := 75) rfl rfl rfl rfl ?_
          refine x_iload (i := 42) (pc' := 77) rfl rfl rfl ?_
          refine m_callS (i := 43) (pc' := 80) (av := [_, _]) (rest := [_]) rfl rfl (by decide) lX12_151 rfl rfl (Nat.le_of_ble_eq_true rfl) (Nat.le_refl _) (Nat.le_refl _) (s_X12_has (by omega) (by omega) ?_)
          dsimp only [psh]
          rw [if_neg hb]
          refine x_ifeq (i := 44) (pc' := 83) (tgt := 87) rfl rfl (by decide) ⟨by omega, by omega⟩ (fun c2 => ?_) (fun c2 => ?_)
          · first | (exfalso; omega; done) | skip
            all_goals (
              refine x_iconst (i := 47) (pc' := 88) rfl rfl ?_
              refine x_isub (i := 48) (pc' := 89) rfl rfl ?_
              refine x_istore (L' := [some _, some _, some _, some _, some _, some _, some _, some _]) (i := 49) (pc' := 91) rfl rfl rfl (by decide) rfl ?_
              refine x_iinc (L' := [some _, some _, some _, some _, some _, some _, some _, some _]) (i := 50) (pc' := 94) rfl rfl rfl rfl (by decide) rfl ?_
              refine x_goto (i := 51) (pc' := 58) rfl (by decide) ?_
              exact ih _ _ (by omega) (by omega) (by omega) hk h
              skip)
          · first | (exfalso; omega; done) | skip
            all_goals (
              refine x_iconst (i := 45) (pc' := 84) rfl rfl ?_
              refine x_goto (i := 46) (pc' := 88) rfl (by decide) ?_
              refine x_isub (i := 48) (pc' := 89) rfl rfl ?_
              refine x_istore (L' := [some _, some _, some _, some _, some _, some _, some _, some _]) (i := 49) (pc' := 91) rfl rfl rfl (by decide) rfl ?_
              refine x_iinc (L' := [some _, some _, some _, some _, some _, some _, some _, some _]) (i := 50) (pc' := 94) rfl rfl rfl rfl (by decide) rfl ?_
              refine x_goto (i := 51) (pc' := 58) rfl (by decide) ?_
              exact ih _ _ (by omega) (by omega) (by omega) hk h
              skip)
          skip)
      · first | (exfalso; omega; done) | skip
        all_goals (
          refine x_iload (i := 38) (pc' := 69) rfl rfl rfl ?_
          refine x_ifle (i := 39) (pc' := 72) (tgt := 97) rfl rfl (by decide) ⟨by omega, by omega⟩ (fun c3 => ?_) (fun c3 => ?_)
          · first | (exfalso; omega; done) | skip
            all_goals (
              (refine AW.le ?_ h; simp [lvle]; done)
              skip)
          · first | (exfalso; omega; done) | skip
            all_goals (
              refine x_iload (i := 40) (pc' := 74) rfl rfl rfl ?_
              refine x_iload_n (i := 41) (pc' := 75) rfl rfl rfl rfl ?_
              refine x_iload (i := 42) (pc' := 77) rfl rfl rfl ?_
              refine m_callS (i := 43) (pc' := 80) (av := [_, _]) (rest := [_]) rfl rfl (by decide) lX12_151 rfl rfl (Nat.le_of_ble_eq_true rfl) (Nat.le_refl _) (Nat.le_refl _) (s_X12_has (by omega) (by omega) ?_)
              dsimp only [psh]
              rw [if_neg hb]
              refine x_ifeq (i := 44) (pc' := 83) (tgt := 87) rfl rfl (by decide) ⟨by omega, by omega⟩ (fun c4 => ?_) (fun c4 => ?_)
              · first | (exfalso; omega; done) | skip
                all_goals (
                  refine x_iconst (i := 47) (pc' := 88) rfl rfl ?_
                  refine x_isub (i := 48) (pc' := 89) rfl rfl ?_
                  refine x_istore (L' := [some _, some _, some _, some _, some _, some _, some _, some _]) (i := 49) (pc' := 91) rfl rfl rfl (by decide) rfl ?_
                  refine x_iinc (L' := [some _, some _, some _, some _, some _, some _, some _, some _]) (i := 50) (pc' := 94) rfl rfl rfl rfl (by decide) rfl ?_
                  refine x_goto (i := 51) (pc' := 58) rfl (by decide) ?_
                  exact ih _ _ (by omega) (by omega) (by omega) hk h
                  skip)
              · first | (exfalso; omega; done) | skip
                all_goals (
                  refine x_iconst (i := 45) (pc' := 84) rfl rfl ?_
                  refine x_goto (i := 46) (pc' := 88) rfl (by decide) ?_
                  refine x_isub (i := 48) (pc' := 89) rfl rfl ?_
                  refine x_istore (L' := [some _, some _, some _, some _, some _, some _, some _, some _]) (i := 49) (pc' := 91) rfl rfl rfl (by decide) rfl ?_
                  refine x_iinc (L' := [some _, some _, some _, some _, some _, some _, some _, some _]) (i := 50) (pc' := 94) rfl rfl rfl rfl (by decide) rfl ?_
                  refine x_goto (i := 51) (pc' := 58) rfl (by decide) ?_
                  exact ih _ _ (by omega) (by omega) (by omega) hk h
                  skip)
              skip)
          skip)
theorem s_X12_tries {G : GG} {m : Mem} {Q : Option Value → Mem → Prop} {k : Int} (hk0 : 0 ≤ k ∧ k < 720) (hQ : Q none (trm k m)) : CM G 1 mX12_tries [.ref (G.2.2.2 76), .int (J (k))] m Q := by
  refine CM.of dkX12_tries (Or.inl rfl) [some _, some _, none, none, none, none, none, none] rfl (Nat.le_of_ble_eq_true rfl) ?_
  have hall := tcl_all k.toNat (by omega)
  rw [Int.toNat_of_nonneg hk0.1] at hall
  refine x_iload_n (i := 0) (pc' := 1) rfl rfl rfl rfl ?_
  refine x_istore_n (L' := [some _, some _, some _, none, none, none, none, none]) (i := 1) (pc' := 2) rfl rfl rfl rfl (by decide) rfl ?_
  refine x_bipush (i := 2) (pc' := 4) rfl rfl (by decide) ?_
  refine x_istore_n (L' := [some _, some _, some _, some _, none, none, none, none]) (i := 3) (pc' := 5) rfl rfl rfl rfl (by decide) rfl ?_
  refine x_iconst (i := 4) (pc' := 6) rfl rfl ?_
  refine x_istore (L' := [some _, some _, some _, some _, some _, none, none, none]) (i := 5) (pc' := 8) rfl rfl rfl (by decide) rfl ?_
  skip
  refine up_ind1 (P := fun (s : Int) (x : (Int × Int) × Mem) => BW G 1 mX12_tries Q 8 [some (.ref (G.2.2.2 76)), some (.int (J (k))), some (.int (J (x.1.1))), some (.int (J (x.1.2))), some (.int (J (s))), none, none, none] [] x.2) (fun (s : Int) (x : (Int × Int) × Mem) => trf s x) (fun (s : Int) (x : (Int × Int) × Mem) => tcl (6 - s).toNat s x.1 = true) (6) (0) (((k, 63), m)) (by omega) (hall) (fun s x hj0 hj hi => (tcl_at hi (by omega)).2) (fun s x hj0 hj hi hk => ?_) (fun hi => ?_)
  · obtain ⟨⟨htk, hx1, hx2⟩, hx3⟩ := tcl_at hi (by omega)
    have hf := fct_le (s := s) (by omega)
    have ht5 := tw_le x.1.2 6 (x.1.1 / fct s) 0 (by omega) (by omega) htk
    have ht6 : 0 ≤ tvv s x.1 ∧ tvv s x.1 ≤ 5 := ht5
    refine x_iload (i := 6) (pc' := 10) rfl rfl rfl ?_
    refine x_bipush (i := 7) (pc' := 12) rfl rfl (by decide) ?_
    refine x_icmpge (i := 8) (pc' := 15) (tgt := 121) rfl rfl (by decide) ⟨by omega, by omega⟩ ⟨by omega, by omega⟩ (fun c1 => by exfalso; omega) (fun c1 => ?_)
    refine x_iconst (i := 9) (pc' := 16) rfl rfl ?_
    refine x_istore (L' := [some _, some _, some _, some _, some _, some _, none, none]) (i := 10) (pc' := 18) rfl rfl rfl (by decide) rfl ?_
    refine x_iconst (i := 11) (pc' := 19) rfl rfl ?_
    refine x_istore (L' := [some _, some _, some _, some _, some _, some _, some _, none]) (i := 12) (pc' := 21) rfl rfl rfl (by decide) rfl ?_
    refine tr_w (by omega) (4 - s).toNat 2 1 (by omega) (by omega) (by omega) ?_
    show BW G 1 mX12_tries Q 44 [some (.ref (G.2.2.2 76)), some (.int (J (k))), some (.int (J (x.1.1))), some (.int (J (x.1.2))), some (.int (J (s))), some (.int (J (fct s))), none, none] [] x.2
    refine x_iload_n (i := 24) (pc' := 45) rfl rfl rfl rfl ?_
    refine x_iload (i := 25) (pc' := 47) rfl rfl rfl ?_
    refine x_idiv (i := 26) (pc' := 48) rfl rfl ⟨by omega, by omega⟩ ⟨by omega, by omega⟩ (by omega) (by omega) ?_
    refine x_istore (L' := [some _, some _, some _, some _, some _, some _, some _, none]) (i := 27) (pc' := 50) rfl rfl rfl (by decide) rfl ?_
    refine x_iload_n (i := 28) (pc' := 51) rfl rfl rfl rfl ?_
    refine x_iload (i := 29) (pc' := 53) rfl rfl rfl ?_
    refine x_irem (i := 30) (pc' := 54) rfl rfl ⟨by omega, by omega⟩ ⟨by omega, by omega⟩ (by omega) (by omega) ?_
    refine x_istore_n (L' := [some _, some _, some _, some _, some _, some _, some _, none]) (i := 31) (pc' := 55) rfl rfl rfl rfl (by decide) rfl ?_
    refine x_iconst (i := 32) (pc' := 56) rfl rfl ?_
    refine x_istore (L' := [some _, some _, some _, some _, some _, some _, some _, some _]) (i := 33) (pc' := 58) rfl rfl rfl (by decide) rfl ?_
    refine tr_v (by omega) 6 _ _ (by omega) (by omega) (by have h8 : x.1.1 / fct s ≤ x.1.1 := Int.ediv_le_self _ (by omega); have h9 : 0 ≤ x.1.1 / fct s := Int.ediv_nonneg (by omega) (by omega); omega) htk ?_
    show BW G 1 mX12_tries Q 97 [some (.ref (G.2.2.2 76)), some (.int (J (k))), some (.int (J (x.1.1 % fct s))), some (.int (J (x.1.2))), some (.int (J (s))), some (.int (J (fct s))), none, some (.int (J (tvv s x.1)))] [] x.2
    refine x_aload_n (i := 52) (pc' := 98) rfl rfl rfl rfl ?_
    refine m_getf (i := 53) (pc' := 101) rfl rfl flX12_19 (sh76 G) rfl rfl ?_
    refine x_iload (i := 54) (pc' := 103) rfl rfl rfl ?_
    refine x_iload (i := 55) (pc' := 105) rfl rfl rfl ?_
    refine m_iast (i := 56) (pc' := 106) rfl rfl (sh80 G) (by decide) ⟨by first | omega | decide | exact ia_nn _ _ | exact Int.natCast_nonneg _ | omega | (exact Int.mul_nonneg (by omega) (Int.le_of_lt (Int.pow_pos (by omega)))), by first | omega | decide | exact ia_nn _ _ | exact Int.natCast_nonneg _ | omega | (exact Int.mul_nonneg (by omega) (Int.le_of_lt (Int.pow_pos (by omega))))⟩ ?_
    refine x_iload_n (i := 57) (pc' := 107) rfl rfl rfl rfl ?_
    refine x_iconst (i := 58) (pc' := 108) rfl rfl ?_
    refine x_iload (i := 59) (pc' := 110) rfl rfl rfl ?_
    refine x_ishl (i := 60) (pc' := 111) rfl rfl (by first | omega | decide | exact ia_nn _ _ | exact Int.natCast_nonneg _ | omega | (exact Int.mul_nonneg (by omega) (Int.le_of_lt (Int.pow_pos (by omega))))) (by first | omega | decide | exact ia_nn _ _ | exact Int.natCast_nonneg _ | omega | (exact Int.mul_nonneg (by omega) (Int.le_of_lt (Int.pow_pos (by omega))))) ?_
    refine x_iconst (i := 61) (pc' := 112) rfl rfl ?_
    rw [J_m1]
    refine x_ixor (i := 62) (pc' := 113) rfl rfl (by first | omega | decide | exact ia_nn _ _ | exact Int.natCast_nonneg _ | omega | (exact Int.mul_nonneg (by omega) (Int.le_of_lt (Int.pow_pos (by omega))))) (by first | omega | decide | exact ia_nn _ _ | exact Int.natCast_nonneg _ | omega | (exact Int.mul_nonneg (by omega) (Int.le_of_lt (Int.pow_pos (by omega))))) ?_
    refine x_iand (i := 63) (pc' := 114) rfl rfl (by first | omega | decide | exact ia_nn _ _ | exact Int.natCast_nonneg _ | omega | (exact Int.mul_nonneg (by omega) (Int.le_of_lt (Int.pow_pos (by omega))))) (by first | omega | decide | exact ia_nn _ _ | exact Int.natCast_nonneg _ | omega | (exact Int.mul_nonneg (by omega) (Int.le_of_lt (Int.pow_pos (by omega))))) ?_
    refine x_istore_n (L' := [some _, some _, some _, some _, some _, some _, none, some _]) (i := 64) (pc' := 115) rfl rfl rfl rfl (by decide) rfl ?_
    refine x_iinc (L' := [some _, some _, some _, some _, some _, some _, none, some _]) (i := 65) (pc' := 118) rfl rfl rfl rfl (by decide) rfl ?_
    refine x_goto (i := 66) (pc' := 8) rfl (by decide) ?_
    (unfold trf at hk; dsimp only at hk; unfold tr1 at hk; refine AW.le ?_ hk; simp [lvle]; done)
  · skip
    refine x_iload (i := 6) (pc' := 10) rfl rfl rfl ?_
    refine x_bipush (i := 7) (pc' := 12) rfl rfl (by decide) ?_
    refine x_icmpge (i := 8) (pc' := 15) (tgt := 121) rfl rfl (by decide) ⟨by omega, by omega⟩ ⟨by omega, by omega⟩ (fun c1 => ?_) (fun c1 => by exfalso; omega)
    exact m_return (i := 67) rfl rfl (hQ)
