/-! ===== loops that count upwards ===== -/
def it {α : Type} (f : Int → α → α) : Int → Nat → α → α
  | _, 0, x => x
  | j, k + 1, x => it f (j + 1) k (f j x)
theorem up_ind {α : Type} {P : Int → α → Prop} (f : Int → α → α) (I : Int → α → Prop) (N : Int) (hI : ∀ j x, j < N → I j x → I (j + 1) (f j x)) (hs : ∀ j x, j < N → I j x → P (j + 1) (f j x) → P j x) : ∀ (k : Nat) (j : Int) (x : α), j + k = N → I j x → P N (it f j k x) → P j x
  | 0, j, x, h, _, hp => by
    have : j = N := by omega
    subst this
    exact hp
  | k + 1, j, x, h, hi, hp => by
    have hj : j < N := by omega
    exact hs j x hj hi (up_ind f I N hI hs k (j + 1) (f j x) (by omega) (hI j x hj hi) hp)
/-- without an invariant of what is gathered -/
theorem up_ind0 {α : Type} {P : Int → α → Prop} (f : Int → α → α) (N j0 : Int) (x0 : α) (hj : j0 ≤ N) (hs : ∀ j x, j0 ≤ j → j < N → P (j + 1) (f j x) → P j x) (hp : P N (it f j0 (N - j0).toNat x0)) : P j0 x0 :=
  up_ind (P := P) f (fun j _ => j0 ≤ j) N (fun j x h h2 => by omega) (fun j x h h2 => hs j x h2 h) (N - j0).toNat j0 x0 (by omega) (Int.le_refl _) hp
theorem up_ind1 {α : Type} {P : Int → α → Prop} (f : Int → α → α) (I : Int → α → Prop) (N j0 : Int) (x0 : α) (hj : j0 ≤ N) (h0 : I j0 x0) (hI : ∀ j x, j0 ≤ j → j < N → I j x → I (j + 1) (f j x)) (hs : ∀ j x, j0 ≤ j → j < N → I j x → P (j + 1) (f j x) → P j x) (hp : I N (it f j0 (N - j0).toNat x0) → P N (it f j0 (N - j0).toNat x0)) : P j0 x0 := by
  have key : ∀ (k : Nat) (j : Int) (x : α), j + k = N → j0 ≤ j → I j x → I N (it f j k x) := by
    intro k
    induction k with
    | zero => intro j x h _ hi; have : j = N := by omega
              subst this; exact hi
    | succ k ih => intro j x h h1 hi; exact ih (j + 1) (f j x) (by omega) (by omega) (hI j x h1 (by omega) hi)
  exact up_ind (P := P) f (fun j x => j0 ≤ j ∧ I j x) N (fun j x h h2 => ⟨by omega, hI j x h2.1 h h2.2⟩) (fun j x h h2 => hs j x h2.1 h h2.2) (N - j0).toNat j0 x0 (by omega) ⟨Int.le_refl _, h0⟩ (hp (key _ j0 x0 (by omega) (Int.le_refl _) h0))
/-- a loop that may be left early: what comes is said from the end -/
theorem up_from {P : Int → Prop} (N : Int) (hN : P N) (hs : ∀ j, j < N → P (j + 1) → P j) : ∀ (k : Nat) (j : Int), j + k = N → P j
  | 0, j, h => by
    have : j = N := by omega
    rw [this]; exact hN
  | k + 1, j, h => hs j (by omega) (up_from N hN hs k (j + 1) (by omega))
def ab (x : Int) : Int := if 0 ≤ x then x else -x
def mx (a b : Int) : Int := if a < b then b else a
def mn (a b : Int) : Int := if b < a then b else a


theorem s_X11_isWithin {G : GG} {m : Mem} {Q : Option Value → Mem → Prop} {a b c : Int} (ha : rg a) (hb : rg b) (hc : rg c) (hQ : Q (some (.int (J (if b ≤ a ∧ a ≤ c then 1 else 0)))) m) : CM G 0 mX11_isWithin [.int (J (a)), .int (J (b)), .int (J (c))] m Q := by
  refine CM.of dkX11_isWithin (Or.inl rfl) [some _, some _, some _] rfl (Nat.le_of_ble_eq_true rfl) ?_
  refine x_iload_n (i := 0) (pc' := 1) rfl rfl rfl rfl ?_
  refine x_iload_n (i := 1) (pc' := 2) rfl rfl rfl rfl ?_
  refine x_icmplt (i := 2) (pc' := 5) (tgt := 14) rfl rfl (by decide) (by assumption) (by assumption) (fun c1 => ?_) (fun c1 => ?_)
  · skip
    refine x_iconst (i := 8) (pc' := 15) rfl rfl ?_
    exact m_zreturn (i := 9) rfl rfl (by omega) (by (repeat' split at hQ) <;> first | exact hQ | (exfalso; omega))
  · skip
    refine x_iload_n (i := 3) (pc' := 6) rfl rfl rfl rfl ?_
    refine x_iload_n (i := 4) (pc' := 7) rfl rfl rfl rfl ?_
    refine x_icmpgt (i := 5) (pc' := 10) (tgt := 14) rfl rfl (by decide) (by assumption) (by assumption) (fun c2 => ?_) (fun c2 => ?_)
    · skip
      refine x_iconst (i := 8) (pc' := 15) rfl rfl ?_
      exact m_zreturn (i := 9) rfl rfl (by omega) (by (repeat' split at hQ) <;> first | exact hQ | (exfalso; omega))
    · skip
      refine x_iconst (i := 6) (pc' := 11) rfl rfl ?_
      refine x_goto (i := 7) (pc' := 15) rfl (by decide) ?_
      exact m_zreturn (i := 9) rfl rfl (by omega) (by (repeat' split at hQ) <;> first | exact hQ | (exfalso; omega))
theorem s_X11_isSpot {G : GG} {m : Mem} {Q : Option Value → Mem → Prop} {a : Int} (ha : rg a) (hQ : Q (some (.int (J (if 0 ≤ a ∧ a ≤ 5 then 1 else 0)))) m) : CM G 1 mX11_isSpot [.int (J (a))] m Q := by
  refine CM.of dkX11_isSpot (Or.inl rfl) [some _] rfl (Nat.le_of_ble_eq_true rfl) ?_
  refine x_iload_n (i := 0) (pc' := 1) rfl rfl rfl rfl ?_
  refine x_iconst (i := 1) (pc' := 2) rfl rfl ?_
  refine x_iconst (i := 2) (pc' := 3) rfl rfl ?_
  refine m_callS (i := 3) (pc' := 6) (av := [_, _, _]) (rest := []) rfl rfl (by decide) lX11_112 rfl rfl (Nat.le_of_ble_eq_true rfl) (Nat.le_refl _) (Nat.le_refl _) (s_X11_isWithin (by omega) (by omega) (by omega) ?_)
  dsimp only [psh]
  exact m_zreturn (i := 4) rfl rfl (by split <;> omega) (hQ)
theorem s_X11_areWithin {G : GG} {m : Mem} {Q : Option Value → Mem → Prop} {h p q f l : Int} (h1 : rg h) (h2 : rg p) (h3 : rg q) (h4 : rg f) (h5 : rg l) (hQ : Q (some (.int (J (if (l ≤ h ∧ h ≤ 7) ∧ (l ≤ p ∧ p ≤ 7) ∧ (l ≤ q ∧ q ≤ 7) ∧ (l ≤ f ∧ f ≤ 7) then 1 else 0)))) m) : CM G 1 mX11_areWithin [.int (J (h)), .int (J (p)), .int (J (q)), .int (J (f)), .int (J (l))] m Q := by
  refine CM.of dkX11_areWithin (Or.inl rfl) [some _, some _, some _, some _, some _, none] rfl (Nat.le_of_ble_eq_true rfl) ?_
  refine x_bipush (i := 0) (pc' := 2) rfl rfl (by decide) ?_
  refine x_istore (L' := [some _, some _, some _, some _, some _, some _]) (i := 1) (pc' := 4) rfl rfl rfl (by decide) rfl ?_
  refine x_iload_n (i := 2) (pc' := 5) rfl rfl rfl rfl ?_
  refine x_iload (i := 3) (pc' := 7) rfl rfl rfl ?_
  refine x_iload (i := 4) (pc' := 9) rfl rfl rfl ?_
  refine m_callS (i := 5) (pc' := 12) (av := [_, _, _]) (rest := []) rfl rfl (by decide) lX11_112 rfl rfl (Nat.le_of_ble_eq_true rfl) (Nat.le_refl _) (Nat.le_refl _) (s_X11_isWithin (by assumption) (by assumption) (by decide) ?_)
  dsimp only [psh]
  refine x_ifeq (i := 6) (pc' := 15) (tgt := 52) rfl rfl (by decide) (by (repeat' split) <;> omega) (fun c1 => ?_) (fun c1 => ?_)
  · skip
    refine x_iconst (i := 24) (pc' := 53) rfl rfl ?_
    exact m_zreturn (i := 25) rfl rfl (by omega) (by (repeat' split at hQ) <;> first | exact hQ | (exfalso; omega))
  · skip
    refine x_iload_n (i := 7) (pc' := 16) rfl rfl rfl rfl ?_
    refine x_iload (i := 8) (pc' := 18) rfl rfl rfl ?_
    refine x_iload (i := 9) (pc' := 20) rfl rfl rfl ?_
    refine m_callS (i := 10) (pc' := 23) (av := [_, _, _]) (rest := []) rfl rfl (by decide) lX11_112 rfl rfl (Nat.le_of_ble_eq_true rfl) (Nat.le_refl _) (Nat.le_refl _) (s_X11_isWithin (by assumption) (by assumption) (by decide) ?_)
    dsimp only [psh]
    refine x_ifeq (i := 11) (pc' := 26) (tgt := 52) rfl rfl (by decide) (by (repeat' split) <;> omega) (fun c2 => ?_) (fun c2 => ?_)
    · skip
      refine x_iconst (i := 24) (pc' := 53) rfl rfl ?_
      exact m_zreturn (i := 25) rfl rfl (by omega) (by (repeat' split at hQ) <;> first | exact hQ | (exfalso; omega))
    · skip
      refine x_iload_n (i := 12) (pc' := 27) rfl rfl rfl rfl ?_
      refine x_iload (i := 13) (pc' := 29) rfl rfl rfl ?_
      refine x_iload (i := 14) (pc' := 31) rfl rfl rfl ?_
      refine m_callS (i := 15) (pc' := 34) (av := [_, _, _]) (rest := []) rfl rfl (by decide) lX11_112 rfl rfl (Nat.le_of_ble_eq_true rfl) (Nat.le_refl _) (Nat.le_refl _) (s_X11_isWithin (by assumption) (by assumption) (by decide) ?_)
      dsimp only [psh]
      refine x_ifeq (i := 16) (pc' := 37) (tgt := 52) rfl rfl (by decide) (by (repeat' split) <;> omega) (fun c3 => ?_) (fun c3 => ?_)
      · skip
        refine x_iconst (i := 24) (pc' := 53) rfl rfl ?_
        exact m_zreturn (i := 25) rfl rfl (by omega) (by (repeat' split at hQ) <;> first | exact hQ | (exfalso; omega))
      · skip
        refine x_iload_n (i := 17) (pc' := 38) rfl rfl rfl rfl ?_
        refine x_iload (i := 18) (pc' := 40) rfl rfl rfl ?_
        refine x_iload (i := 19) (pc' := 42) rfl rfl rfl ?_
        refine m_callS (i := 20) (pc' := 45) (av := [_, _, _]) (rest := []) rfl rfl (by decide) lX11_112 rfl rfl (Nat.le_of_ble_eq_true rfl) (Nat.le_refl _) (Nat.le_refl _) (s_X11_isWithin (by assumption) (by assumption) (by decide) ?_)
        dsimp only [psh]
        refine x_ifeq (i := 21) (pc' := 48) (tgt := 52) rfl rfl (by decide) (by (repeat' split) <;> omega) (fun c4 => ?_) (fun c4 => ?_)
        · skip
          refine x_iconst (i := 24) (pc' := 53) rfl rfl ?_
          exact m_zreturn (i := 25) rfl rfl (by omega) (by (repeat' split at hQ) <;> first | exact hQ | (exfalso; omega))
        · skip
          refine x_iconst (i := 22) (pc' := 49) rfl rfl ?_
          refine x_goto (i := 23) (pc' := 53) rfl (by decide) ?_
          exact m_zreturn (i := 25) rfl rfl (by omega) (by (repeat' split at hQ) <;> first | exact hQ | (exfalso; omega))
theorem pf_abs_0f7a4 : plainFor mJ9_abs_0f7a4.1 = true := by decide +kernel
theorem pf_max_7cf53 : plainFor mJ9_max_7cf53.1 = true := by decide +kernel
theorem pf_min_7cf53 : plainFor mJ9_min_7cf53.1 = true := by decide +kernel
theorem s_J9_abs_0f7a4 {G : GG} {m : Mem} {Q : Option Value → Mem → Prop} {a : Int} (ha : rg a) (hQ : Q (some (.int (J (ab a)))) m) : CM G 0 mJ9_abs_0f7a4 [.int (J (a))] m Q := by
  refine CM.of dkJ9_abs_0f7a4 (Or.inr pf_abs_0f7a4) [some _] rfl (Nat.le_of_ble_eq_true rfl) ?_
  refine x_iload_n (i := 0) (pc' := 1) rfl rfl rfl rfl ?_
  refine x_ifge (i := 1) (pc' := 4) (tgt := 9) rfl rfl (by decide) (by assumption) (fun c1 => ?_) (fun c1 => ?_)
  · skip
    refine x_iload_n (i := 5) (pc' := 10) rfl rfl rfl rfl ?_
    exact m_ireturn (i := 6) rfl rfl (by unfold ab at hQ; (repeat' split at hQ) <;> first | exact hQ | (exfalso; omega))
  · skip
    refine x_iload_n (i := 2) (pc' := 5) rfl rfl rfl rfl ?_
    refine x_ineg (i := 3) (pc' := 6) rfl rfl ?_
    refine x_goto (i := 4) (pc' := 10) rfl (by decide) ?_
    exact m_ireturn (i := 6) rfl rfl (by unfold ab at hQ; (repeat' split at hQ) <;> first | exact hQ | (exfalso; omega))
theorem s_J9_max_7cf53 {G : GG} {m : Mem} {Q : Option Value → Mem → Prop} {a b : Int} (ha : rg a) (hb : rg b) (hQ : Q (some (.int (J (mx a b)))) m) : CM G 0 mJ9_max_7cf53 [.int (J (a)), .int (J (b))] m Q := by
  refine CM.of dkJ9_max_7cf53 (Or.inr pf_max_7cf53) [some _, some _] rfl (Nat.le_of_ble_eq_true rfl) ?_
  refine x_iload_n (i := 0) (pc' := 1) rfl rfl rfl rfl ?_
  refine x_iload_n (i := 1) (pc' := 2) rfl rfl rfl rfl ?_
  refine x_icmplt (i := 2) (pc' := 5) (tgt := 9) rfl rfl (by decide) (by assumption) (by assumption) (fun c1 => ?_) (fun c1 => ?_)
  · skip
    refine x_iload_n (i := 5) (pc' := 10) rfl rfl rfl rfl ?_
    exact m_ireturn (i := 6) rfl rfl (by unfold mx at hQ; (repeat' split at hQ) <;> first | exact hQ | (exfalso; omega))
  · skip
    refine x_iload_n (i := 3) (pc' := 6) rfl rfl rfl rfl ?_
    refine x_goto (i := 4) (pc' := 10) rfl (by decide) ?_
    exact m_ireturn (i := 6) rfl rfl (by unfold mx at hQ; (repeat' split at hQ) <;> first | exact hQ | (exfalso; omega))
theorem s_J9_min_7cf53 {G : GG} {m : Mem} {Q : Option Value → Mem → Prop} {a b : Int} (ha : rg a) (hb : rg b) (hQ : Q (some (.int (J (mn a b)))) m) : CM G 0 mJ9_min_7cf53 [.int (J (a)), .int (J (b))] m Q := by
  refine CM.of dkJ9_min_7cf53 (Or.inr pf_min_7cf53) [some _, some _] rfl (Nat.le_of_ble_eq_true rfl) ?_
  refine x_iload_n (i := 0) (pc' := 1) rfl rfl rfl rfl ?_
  refine x_iload_n (i := 1) (pc' := 2) rfl rfl rfl rfl ?_
  refine x_icmpgt (i := 2) (pc' := 5) (tgt := 9) rfl rfl (by decide) (by assumption) (by assumption) (fun c1 => ?_) (fun c1 => ?_)
  · skip
    refine x_iload_n (i := 5) (pc' := 10) rfl rfl rfl rfl ?_
    exact m_ireturn (i := 6) rfl rfl (by unfold mn at hQ; (repeat' split at hQ) <;> first | exact hQ | (exfalso; omega))
  · skip
    refine x_iload_n (i := 3) (pc' := 6) rfl rfl rfl rfl ?_
    refine x_goto (i := 4) (pc' := 10) rfl (by decide) ?_
    exact m_ireturn (i := 6) rfl rfl (by unfold mn at hQ; (repeat' split at hQ) <;> first | exact hQ | (exfalso; omega))
theorem s_X3_trait {G : GG} {m : Mem} {Q : Option Value → Mem → Prop} {a b : Int} (ha : 0 ≤ a ∧ a ≤ 16) (hb : 0 ≤ b ∧ b ≤ 4) (hQ : Q (some (.int (J (m 3 (a * 5 + b))))) m) : CM G 0 mX3_trait [.ref (G.2.2.2 2), .int (J (a)), .int (J (b))] m Q := by
  refine CM.of dkX3_trait (Or.inl rfl) [some _, some _, some _] rfl (Nat.le_of_ble_eq_true rfl) ?_
  refine x_iload_n (i := 0) (pc' := 1) rfl rfl rfl rfl ?_
  refine x_iflt (i := 1) (pc' := 4) (tgt := 32) rfl rfl (by decide) ⟨by omega, by omega⟩ (fun c1 => ?_) (fun c1 => ?_)
  · first | (exfalso; omega; done) | skip
    all_goals (
      refine x_iconst (i := 19) (pc' := 33) rfl rfl ?_
      exact m_ireturn (i := 20) rfl rfl (hQ)
      skip)
  · first | (exfalso; omega; done) | skip
    all_goals (
      refine x_iload_n (i := 2) (pc' := 5) rfl rfl rfl rfl ?_
      refine x_bipush (i := 3) (pc' := 7) rfl rfl (by decide) ?_
      refine x_icmpgt (i := 4) (pc' := 10) (tgt := 32) rfl rfl (by decide) ⟨by omega, by omega⟩ ⟨by omega, by omega⟩ (fun c2 => ?_) (fun c2 => ?_)
      · first | (exfalso; omega; done) | skip
        all_goals (
          refine x_iconst (i := 19) (pc' := 33) rfl rfl ?_
          exact m_ireturn (i := 20) rfl rfl (hQ)
          skip)
      · first | (exfalso; omega; done) | skip
        all_goals (
          refine x_iload_n (i := 5) (pc' := 11) rfl rfl rfl rfl ?_
          refine x_iflt (i := 6) (pc' := 14) (tgt := 32) rfl rfl (by decide) ⟨by omega, by omega⟩ (fun c3 => ?_) (fun c3 => ?_)
          · first | (exfalso; omega; done) | skip
            all_goals (
              refine x_iconst (i := 19) (pc' := 33) rfl rfl ?_
              exact m_ireturn (i := 20) rfl rfl (hQ)
              skip)
          · first | (exfalso; omega; done) | skip
            all_goals (
              refine x_iload_n (i := 7) (pc' := 15) rfl rfl rfl rfl ?_
              refine x_iconst (i := 8) (pc' := 16) rfl rfl ?_
              refine x_icmpgt (i := 9) (pc' := 19) (tgt := 32) rfl rfl (by decide) ⟨by omega, by omega⟩ ⟨by omega, by omega⟩ (fun c4 => ?_) (fun c4 => ?_)
              · first | (exfalso; omega; done) | skip
                all_goals (
                  refine x_iconst (i := 19) (pc' := 33) rfl rfl ?_
                  exact m_ireturn (i := 20) rfl rfl (hQ)
                  skip)
              · first | (exfalso; omega; done) | skip
                all_goals (
                  refine x_aload_n (i := 10) (pc' := 20) rfl rfl rfl rfl ?_
                  refine m_getf (i := 11) (pc' := 23) rfl rfl flX3_9 (sh2 G) rfl rfl ?_
                  refine x_iload_n (i := 12) (pc' := 24) rfl rfl rfl rfl ?_
                  refine x_iconst (i := 13) (pc' := 25) rfl rfl ?_
                  refine x_imul (i := 14) (pc' := 26) rfl rfl ?_
                  refine x_iload_n (i := 15) (pc' := 27) rfl rfl rfl rfl ?_
                  refine x_iadd (i := 16) (pc' := 28) rfl rfl ?_
                  refine m_iald (i := 17) (pc' := 29) rfl rfl (sh3 G) (by decide) ⟨by omega, by omega⟩ ?_
                  refine x_goto (i := 18) (pc' := 33) rfl (by decide) ?_
                  exact m_ireturn (i := 20) rfl rfl (hQ)
                  skip)
              skip)
          skip)
      skip)
def pop (z : Int) : Int := z % 2 + z / 2 % 2 + z / 4 % 2 + z / 8 % 2
def MR (m : Mem) : Prop := ∀ (q : Nat) (j : Int), rg (m q j)
theorem io_nn (a b : Int) : 0 ≤ io a b := Int.natCast_nonneg _
theorem ia_nn (a b : Int) : 0 ≤ ia a b := Int.natCast_nonneg _
theorem ix_le {a b : Int} (ha : 0 ≤ a ∧ a ≤ 7) (hb : 0 ≤ b ∧ b ≤ 7) : 0 ≤ ix a b ∧ ix a b ≤ 7 := by
  have h := Nat.xor_lt_two_pow (n := 3) (show a.toNat < 2 ^ 3 by omega) (show b.toNat < 2 ^ 3 by omega)
  unfold ix
  omega
def bcx (x : Int32) : Int32 :=
  let a := x - ((x.toUInt32 >>> ((J 1).toUInt32 &&& Int32.toUInt32 31)).toInt32 &&& J 1431655765)
  let b := (a &&& J 858993459) + ((a.toUInt32 >>> ((J 2).toUInt32 &&& Int32.toUInt32 31)).toInt32 &&& J 858993459)
  let c := (b + (b.toUInt32 >>> ((J 4).toUInt32 &&& Int32.toUInt32 31)).toInt32) &&& J 252645135
  let d := c + (c.toUInt32 >>> ((J 8).toUInt32 &&& Int32.toUInt32 31)).toInt32
  let e := d + (d.toUInt32 >>> ((J 16).toUInt32 &&& Int32.toUInt32 31)).toInt32
  e &&& J 63
theorem bcx_ok : ∀ z : Nat, z < 16 → bcx (J (z : Int)) = J (pop (z : Int)) := by decide +kernel
theorem s_J6_bitCount_0f7a4 {G : GG} {m : Mem} {Q : Option Value → Mem → Prop} {z : Int} (hz : 0 ≤ z ∧ z ≤ 15) (hQ : Q (some (.int (J (pop z)))) m) : CM G 0 mJ6_bitCount_0f7a4 [.int (J z)] m Q := by
  have e := bcx_ok z.toNat (by omega)
  rw [Int.toNat_of_nonneg hz.1] at e
  rw [← e] at hQ
  refine CM.of dkJ6_bitCount_0f7a4 (Or.inl rfl) [some _] rfl (Nat.le_of_ble_eq_true rfl) ?_
  refine x_iload_n (i := 0) (pc' := 1) rfl rfl rfl rfl ?_
  refine x_iload_n (i := 1) (pc' := 2) rfl rfl rfl rfl ?_
  refine x_iconst (i := 2) (pc' := 3) rfl rfl ?_
  refine x_riushr (i := 3) (pc' := 4) rfl rfl ?_
  refine x_ldcw (i := 4) (pc' := 7) rfl rfl kJ6_265 ?_
  refine x_riand (i := 5) (pc' := 8) rfl rfl ?_
  refine x_risub (i := 6) (pc' := 9) rfl rfl ?_
  refine x_istore_n (L' := [some _]) (i := 7) (pc' := 10) rfl rfl rfl rfl (by decide) rfl ?_
  refine x_iload_n (i := 8) (pc' := 11) rfl rfl rfl rfl ?_
  refine x_ldcw (i := 9) (pc' := 14) rfl rfl kJ6_266 ?_
  refine x_riand (i := 10) (pc' := 15) rfl rfl ?_
  refine x_iload_n (i := 11) (pc' := 16) rfl rfl rfl rfl ?_
  refine x_iconst (i := 12) (pc' := 17) rfl rfl ?_
  refine x_riushr (i := 13) (pc' := 18) rfl rfl ?_
  refine x_ldcw (i := 14) (pc' := 21) rfl rfl kJ6_266 ?_
  refine x_riand (i := 15) (pc' := 22) rfl rfl ?_
  refine x_riadd (i := 16) (pc' := 23) rfl rfl ?_
  refine x_istore_n (L' := [some _]) (i := 17) (pc' := 24) rfl rfl rfl rfl (by decide) rfl ?_
  refine x_iload_n (i := 18) (pc' := 25) rfl rfl rfl rfl ?_
  refine x_iload_n (i := 19) (pc' := 26) rfl rfl rfl rfl ?_
  refine x_iconst (i := 20) (pc' := 27) rfl rfl ?_
  refine x_riushr (i := 21) (pc' := 28) rfl rfl ?_
  refine x_riadd (i := 22) (pc' := 29) rfl rfl ?_
  refine x_ldcw (i := 23) (pc' := 32) rfl rfl kJ6_267 ?_
  refine x_riand (i := 24) (pc' := 33) rfl rfl ?_
  refine x_istore_n (L' := [some _]) (i := 25) (pc' := 34) rfl rfl rfl rfl (by decide) rfl ?_
  refine x_iload_n (i := 26) (pc' := 35) rfl rfl rfl rfl ?_
  refine x_iload_n (i := 27) (pc' := 36) rfl rfl rfl rfl ?_
  refine x_bipush (i := 28) (pc' := 38) rfl rfl (by decide) ?_
  refine x_riushr (i := 29) (pc' := 39) rfl rfl ?_
  refine x_riadd (i := 30) (pc' := 40) rfl rfl ?_
  refine x_istore_n (L' := [some _]) (i := 31) (pc' := 41) rfl rfl rfl rfl (by decide) rfl ?_
  refine x_iload_n (i := 32) (pc' := 42) rfl rfl rfl rfl ?_
  refine x_iload_n (i := 33) (pc' := 43) rfl rfl rfl rfl ?_
  refine x_bipush (i := 34) (pc' := 45) rfl rfl (by decide) ?_
  refine x_riushr (i := 35) (pc' := 46) rfl rfl ?_
  refine x_riadd (i := 36) (pc' := 47) rfl rfl ?_
  refine x_istore_n (L' := [some _]) (i := 37) (pc' := 48) rfl rfl rfl rfl (by decide) rfl ?_
  refine x_iload_n (i := 38) (pc' := 49) rfl rfl rfl rfl ?_
  refine x_bipush (i := 39) (pc' := 51) rfl rfl (by decide) ?_
  refine x_riand (i := 40) (pc' := 52) rfl rfl ?_
  exact m_ireturn (i := 41) rfl rfl hQ
