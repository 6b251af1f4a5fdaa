theorem INV.mono {e e' : Int} {m : Mem} (h : INV e m) (h1 : e ≤ e') (h2 : e' ≤ 512) : INV e' m := by
  obtain ⟨a1, a2, a3, a4, a5, a6, a7⟩ := h
  exact ⟨a1, a2, a3, a4, a5, a6, h2, fun i a b => by have := a7.2 i a b; omega⟩
/-- rows that no state stands in may change -/
theorem INV.cg {e : Int} {m m' : Mem} (h : INV e m) (hM : MR m') (hq : ∀ q : Nat, 2 ≤ q → q ≤ 53 → q ≠ 9 → m' q = m q) (h75 : m' 75 = m 75) (h761 : m' 76 1 = m 76 1) (h764 : m' 76 4 = m 76 4) (h77 : ∀ i, i < 840 → m' 77 i = m 77 i) (h78 : m' 78 = m 78) (h79 : m' 79 = m 79) (ht : TRL m') : INV e m' := by
  obtain ⟨a1, a2, a3, a4, a5, a6, a7⟩ := h
  have hq1 : ∀ j : Nat, 1 ≤ j → j ≤ 6 → m' (1 + j) = m (1 + j) := fun j j1 j2 => hq _ (by omega) (by omega) (by omega)
  refine ⟨hM, a2.cg hq1, a3.cg a2 hq1 (fun i i0 i1 => h77 _ (by omega)), hst_stay a4 (hq 8 (by decide) (by decide) (by decide)) h761 (fun q q1 q2 _ => hq q (by omega) (by omega) (by omega)) (fun i i0 i1 => h77 i i1), ?_, ht, ?_⟩
  · rw [hq 52 (by decide) (by decide) (by decide), hq 53 (by decide) (by decide) (by decide), h764, h79]; exact a5
  · rw [h75, h78]; exact a7
theorem askm_ne (m : Mem) (a b c d : Int) {q : Nat} (h : q ≠ 3) : askm m a b c d q = m q := by
  unfold askm
  rw [stm_ne _ _ _ h, stm_ne _ _ _ h, stm_ne _ _ _ h, stm_ne _ _ _ h]
theorem askm_lo (m : Mem) (a b c d : Int) {i : Int} (h : i < 80) : askm m a b c d 3 i = m 3 i := by
  unfold askm
  rw [stm_ix _ _ _ (by omega), stm_ix _ _ _ (by omega), stm_ix _ _ _ (by omega), stm_ix _ _ _ (by omega)]
theorem askm_hi (m : Mem) (a b c d : Int) : askm m a b c d 3 (16 * 5 + 0) = a ∧ askm m a b c d 3 (16 * 5 + 1) = b ∧ askm m a b c d 3 (16 * 5 + 2) = c ∧ askm m a b c d 3 (16 * 5 + 3) = d := by
  unfold askm
  refine ⟨?_, ?_, ?_, stm_eq _ _ _ _⟩
  · rw [stm_ix _ _ _ (by decide), stm_ix _ _ _ (by decide), stm_ix _ _ _ (by decide), stm_eq]
  · rw [stm_ix _ _ _ (by decide), stm_ix _ _ _ (by decide), stm_eq]
  · rw [stm_ix _ _ _ (by decide), stm_eq]
/-- the row of traits may change behind the signs -/
theorem INV.tr {e : Int} {m m' : Mem} (h : INV e m) (hM : MR m') (h3 : ∀ i, i < 80 → m' 3 i = m 3 i) (hq : ∀ q : Nat, q ≠ 3 → m' q = m q) : INV e m' := by
  obtain ⟨a1, a2, a3, a4, a5, a6, a7⟩ := h
  have h4 : okm m' 1 := by
    have h0 := ok_.cg (t' := m' 3) (w' := m 4) (s' := m 6) (p' := m 7) a2 (fun i _ b => h3 i b) (fun _ _ _ => rfl) (fun _ _ _ => rfl) (fun _ _ _ => rfl)
    unfold okm
    rw [hq (1 + 1) (by decide), hq (1 + 3) (by decide), hq (1 + 4) (by decide), hq (1 + 5) (by decide), hq (1 + 6) (by decide)]
    exact h0
  have h5 : eqm m' 1 (m' 77) 0 := by
    have h0 := eqv.cg (t' := m' 3) (w' := m 4) (s' := m 6) (p' := m 7) (r' := m 77) (o' := 0) a3 a2.1 a2.2.1 (fun i _ b => h3 i b) (fun _ _ _ => rfl) (fun _ _ _ => rfl) (fun _ _ _ => rfl) (fun _ _ _ => rfl)
    unfold eqm
    rw [hq (1 + 1) (by decide), hq (1 + 3) (by decide), hq (1 + 4) (by decide), hq (1 + 5) (by decide), hq (1 + 6) (by decide), hq 77 (by decide)]
    exact h0
  refine ⟨hM, h4, h5, hst_stay a4 (hq 8 (by decide)) (by rw [hq 76 (by decide)]) (fun q q1 q2 _ => hq q (by omega)) (fun i _ _ => by rw [hq 77 (by decide)]), ?_, ?_, ?_⟩
  · rw [hq 52 (by decide), hq 53 (by decide), hq 76 (by decide), hq 79 (by decide)]; exact a5
  · unfold TRL; rw [hq 68 (by decide)]; exact a6
  · rw [hq 75 (by decide), hq 78 (by decide)]; exact a7
theorem INV.ask {e : Int} {m : Mem} (h : INV e m) {a b c d : Int} (ra : rg a) (rb : rg b) (rc : rg c) (rd : rg d) : INV e (askm m a b c d) :=
  h.tr (h.1.ask ra rb rc rd) (fun i hi => askm_lo m a b c d hi) (fun q hq => askm_ne m a b c d hq)
theorem ctm_ne (m : Mem) (r : Int) {q : Nat} (h : q ≠ 75) : ctm m r q = m q := by
  unfold ctm
  split
  · exact stm_ne _ _ _ h
  · rfl
theorem rfm_ne (m : Mem) (r : Int) {q : Nat} (h : q ≠ 78) : rfm m r q = m q := stm_ne _ _ _ h
theorem ctm_75 {m : Mem} {r : Int} (hr : -4 ≤ r ∧ r ≤ -2) (i : Int) : ctm m r 75 i = if i = -2 - r then m 75 i + 1 else m 75 i := by
  unfold ctm
  rw [if_pos (by omega)]
  by_cases h : i = -2 - r
  · rw [if_pos h, h, stm_eq]
  · rw [if_neg h, stm_ix _ _ _ h]
theorem rfm_78 {m : Mem} {r : Int} (i : Int) : rfm m r 78 i = if i = -2 - r then m 78 i + 1 else m 78 i := by
  unfold rfm
  by_cases h : i = -2 - r
  · rw [if_pos h, h, stm_eq]
  · rw [if_neg h, stm_ix _ _ _ h]
/-- a refusal: both counts go up -/
theorem INV.err {e : Int} {m : Mem} (h : INV e m) (he : e < 512) {r : Int} (hr : -4 ≤ r ∧ r ≤ -2) : GM (ctm m r) ∧ INV (e + 1) (rfm (ctm m r) r) := by
  have hg := h.gm
  have hi := h.gi
  obtain ⟨a1, a2, a3, a4, a5, a6, a7⟩ := h
  have b0 := a7.2 (-2 - r) (by omega) (by omega)
  have M1 : MR (ctm m r) := by
    unfold ctm
    rw [if_pos (by omega)]
    exact a1.st (by have := a7.1; omega)
  have g : GM (ctm m r) := hg.cg M1 (ctm_ne _ _ (by decide)) (ctm_ne _ _ (by decide)) (ctm_ne _ _ (by decide))
  refine ⟨g, ?_⟩
  have M2 : MR (rfm (ctm m r) r) := M1.st (by rw [ctm_ne _ _ (by decide)]; have := a7.1; omega)
  have hq : ∀ q : Nat, q ≠ 75 → q ≠ 78 → rfm (ctm m r) r q = m q := fun q h1 h2 => by rw [rfm_ne _ _ h2, ctm_ne _ _ h1]
  have hq1 : ∀ j : Nat, 1 ≤ j → j ≤ 6 → rfm (ctm m r) r (1 + j) = m (1 + j) := fun j j1 j2 => hq _ (by omega) (by omega)
  refine ⟨M2, a2.cg hq1, a3.cg a2 hq1 (fun i i0 i1 => by rw [hq 77 (by decide) (by decide)]), hst_stay a4 (hq 8 (by decide) (by decide)) (by rw [hq 76 (by decide) (by decide)]) (fun q q1 q2 _ => hq q (by omega) (by omega)) (fun i i0 i1 => by rw [hq 77 (by decide) (by decide)]), ?_, ?_, by omega, fun i i0 i1 => ?_⟩
  · rw [hq 52 (by decide) (by decide), hq 53 (by decide) (by decide), hq 76 (by decide) (by decide), hq 79 (by decide) (by decide)]; exact a5
  · unfold TRL; rw [hq 68 (by decide) (by decide)]; exact a6
  · have b1 := a7.2 i i0 i1
    rw [rfm_78, rfm_ne _ _ (by decide), ctm_ne m r (q := 78) (by decide), ctm_75 hr]
    split <;> omega
/-! two loops that do the same -/
theorem it_cg {α : Type} {f g : Int → α → α} : ∀ (n : Nat) (j : Int) (x : α), (∀ i x, j ≤ i → i < j + n → f i x = g i x) → it f j n x = it g j n x
  | 0, j, x, h => rfl
  | n + 1, j, x, h => by
    unfold it
    rw [h j x (by omega) (by omega)]
    exact it_cg n (j + 1) _ (fun i y a b => h i y (by omega) (by omega))
theorem it_cgI {α : Type} {f g : Int → α → α} (I : α → Prop) : ∀ (n : Nat) (j : Int) (x : α), I x → (∀ i x, j ≤ i → i < j + n → I x → I (f i x)) → (∀ i x, j ≤ i → i < j + n → I x → f i x = g i x) → it f j n x = it g j n x
  | 0, j, x, _, _, h => rfl
  | n + 1, j, x, hx, hi, h => by
    unfold it
    rw [← h j x (by omega) (by omega) hx]
    exact it_cgI I n (j + 1) _ (hi j x (by omega) (by omega) hx) (fun i y a b => hi i y (by omega) (by omega)) (fun i y a b => h i y (by omega) (by omega))
theorem it_rel {α β : Type} {f : Int → α → α} {g : Int → β → β} (R : Int → α → β → Prop) : ∀ (n : Nat) (j : Int) (x : α) (y : β), (∀ i x y, j ≤ i → i < j + n → R i x y → R (i + 1) (f i x) (g i y)) → R j x y → R (j + n) (it f j n x) (it g j n y)
  | 0, j, x, y, _, h => by
    unfold it
    rw [show j + ((0 : Nat) : Int) = j by omega]
    exact h
  | n + 1, j, x, y, hs, h => by
    unfold it
    have := it_rel R n (j + 1) (f j x) (g j y) (fun i a b c d => hs i a b (by omega) (by omega)) (hs j x y (by omega) (by omega) h)
    rw [show j + ((n + 1 : Nat) : Int) = j + 1 + (n : Int) by omega]
    exact this
theorem it_succ {α : Type} (f : Int → α → α) : ∀ (n : Nat) (j : Int) (x : α), it f j (n + 1) x = f (j + n) (it f j n x)
  | 0, j, x => by
    show f j x = f (j + ((0 : Nat) : Int)) x
    rw [show j + ((0 : Nat) : Int) = j by omega]
  | n + 1, j, x => by
    have h := it_succ f n (j + 1) (f j x)
    have e : j + ((n + 1 : Nat) : Int) = j + 1 + (n : Int) := by omega
    rw [e]
    exact h
theorem io_0 {x : Int} (h : 0 ≤ x) : io x 0 = x := by
  unfold io
  simp
  omega
/-! ===== words of signs ===== -/
theorem q_co {m : Mem} (h : eq0 m) (k : Int) : co m k = wdw m k := by
  obtain ⟨e0, e1, e2, e3, e4, e5⟩ := h
  unfold co wdw
  rw [← e1]
  refine it_cg _ _ _ (fun i x a b => ?_)
  have := e3 i 0 a (by omega) (by omega) (by omega)
  rw [Int.add_zero, Int.add_zero] at this
  rw [Int.add_zero, this]
  split <;> omega
theorem ds_eq (m : Mem) (a b : Int) : ds m a b = 0 + m 4 0 * gp 0 (m 3 (a * 5 + 0)) (m 3 (b * 5 + 0)) + m 4 1 * gp 1 (m 3 (a * 5 + 1)) (m 3 (b * 5 + 1)) + m 4 2 * gp 2 (m 3 (a * 5 + 2)) (m 3 (b * 5 + 2)) + m 4 3 * gp 3 (m 3 (a * 5 + 3)) (m 3 (b * 5 + 3)) := rfl
theorem q_ao {m : Mem} (h : eq0 m) {j : Int} (h0 : 0 ≤ j) (h1 : j < m 2 2) (b : Int) : ds m j b = ao m j (m 3 (b * 5 + 0)) (m 3 (b * 5 + 1)) (m 3 (b * 5 + 2)) (m 3 (b * 5 + 3)) := by
  obtain ⟨e0, e1, e2, e3, e4, e5⟩ := h
  rw [ds_eq]
  unfold ao
  rw [e2 j 0 h0 h1 (by omega) (by omega), e2 j 1 h0 h1 (by omega) (by omega), e2 j 2 h0 h1 (by omega) (by omega), e2 j 3 h0 h1 (by omega) (by omega), e4 0 (by omega) (by omega), e4 1 (by omega) (by omega), e4 2 (by omega) (by omega), e4 3 (by omega) (by omega), Int.zero_add]
  rfl
theorem q_ds {m : Mem} (h : eq0 m) {j k : Int} (h0 : 0 ≤ j) (h1 : j < m 2 2) (k0 : 0 ≤ k) (k1 : k < m 2 2) : ds m j k = btw m j k := by
  rw [q_ao h h0 h1]
  obtain ⟨e0, e1, e2, e3, e4, e5⟩ := h
  unfold btw
  rw [e2 k 0 k0 k1 (by omega) (by omega), e2 k 1 k0 k1 (by omega) (by omega), e2 k 2 k0 k1 (by omega) (by omega), e2 k 3 k0 k1 (by omega) (by omega)]
theorem df_eq (m : Mem) (a b : Int) : df m a b = (fun x0 => (fun x1 => (fun x2 => if m 3 (a * 5 + 3) = m 3 (b * 5 + 3) then x2 else io x2 (1 * 2 ^ 3)) (if m 3 (a * 5 + 2) = m 3 (b * 5 + 2) then x1 else io x1 (1 * 2 ^ 2))) (if m 3 (a * 5 + 1) = m 3 (b * 5 + 1) then x0 else io x0 (1 * 2 ^ 1))) (if m 3 (a * 5 + 0) = m 3 (b * 5 + 0) then 0 else io 0 (1 * 2 ^ 0)) := rfl
theorem q_df {m : Mem} (h : eq0 m) {j k : Int} (h0 : 0 ≤ j) (h1 : j < m 2 2) (k0 : 0 ≤ k) (k1 : k < m 2 2) : df m j k = unl m j k := by
  obtain ⟨e0, e1, e2, e3, e4, e5⟩ := h
  unfold df unl
  refine it_cgI (fun x => 0 ≤ x) _ _ _ (by decide) (fun i x a b hx => ?_) (fun i x a b hx => ?_)
  · try dsimp only
    split
    · exact hx
    · exact io_nn _ _
  · rw [e2 j i h0 h1 (by omega) (by omega), e2 k i k0 k1 (by omega) (by omega)]
    split
    · rw [io_0 hx]
    · rfl
theorem q_nb {m : Mem} (h : eq0 m) {k : Int} (k0 : 0 ≤ k) (k1 : k < m 2 2) (d : Int) : nb m k d = nrf m k d := by
  unfold nb nrf
  rw [← h.1]
  refine it_cgI (fun x => 0 ≤ x) _ _ _ (by decide) (fun i x a b hx => ?_) (fun i x a b hx => ?_)
  · try dsimp only
    split
    · exact io_nn _ _
    · exact hx
  · rw [q_ds h a (by omega) k0 k1]
    split
    · rfl
    · rw [io_0 hx]
theorem q_cs {m : Mem} (h : eq0 m) (s : Int) : cs m s = sos m s := by
  obtain ⟨e0, e1, e2, e3, e4, e5⟩ := h
  unfold cs sos
  rw [← e0]
  refine it_cg _ _ _ (fun i x a b => ?_)
  rw [e2 i 4 a (by omega) (by omega) (by omega)]
  split <;> omega
theorem INV.eq0 {e : Int} {m : Mem} (h : INV e m) : eq0 m := (eqm_0 m).mp h.2.2.1
