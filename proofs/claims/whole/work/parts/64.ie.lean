/-! ===== sums, bits, groups ===== -/
def sm (g : Int → Int) : Nat → Int
  | 0 => 0
  | n + 1 => sm g n + g (n : Int)
theorem it_sm (g : Int → Int) : ∀ (n : Nat) (x : Int), it (fun k x => x + g k) 0 n x = x + sm g n
  | 0, x => by show x = x + 0; omega
  | n + 1, x => by
    rw [it_succ, it_sm g n x, Int.zero_add]
    show x + sm g n + g (n : Int) = x + (sm g n + g (n : Int))
    omega
theorem sm_cg {g h : Int → Int} : ∀ n : Nat, (∀ i : Int, 0 ≤ i → i < n → g i = h i) → sm g n = sm h n
  | 0, _ => rfl
  | n + 1, H => by
    show sm g n + g (n : Int) = sm h n + h (n : Int)
    rw [sm_cg n (fun i a b => H i a (by omega)), H (n : Int) (by omega) (by omega)]
theorem sm_0 {g : Int → Int} (n : Nat) (H : ∀ i : Int, 0 ≤ i → i < n → g i = 0) : sm g n = 0 := by
  induction n with
  | zero => rfl
  | succ n ih =>
    show sm g n + g (n : Int) = 0
    rw [ih (fun i a b => H i a (by omega)), H (n : Int) (by omega) (by omega)]; rfl
theorem sm_add (g h : Int → Int) : ∀ n : Nat, sm (fun i => g i + h i) n = sm g n + sm h n
  | 0 => rfl
  | n + 1 => by
    show sm (fun i => g i + h i) n + (g (n : Int) + h (n : Int)) = sm g n + g (n : Int) + (sm h n + h (n : Int))
    rw [sm_add g h n]; omega
theorem sm_nn {g : Int → Int} (n : Nat) (H : ∀ i : Int, 0 ≤ i → i < n → 0 ≤ g i) : 0 ≤ sm g n := by
  induction n with
  | zero => exact Int.le_refl _
  | succ n ih =>
    have h1 := ih (fun i a b => H i a (by omega))
    have h2 := H (n : Int) (by omega) (by omega)
    show 0 ≤ sm g n + g (n : Int)
    omega
theorem sm_le {g h : Int → Int} (n : Nat) (H : ∀ i : Int, 0 ≤ i → i < n → g i ≤ h i) : sm g n ≤ sm h n := by
  induction n with
  | zero => exact Int.le_refl _
  | succ n ih =>
    have h1 := ih (fun i a b => H i a (by omega))
    have h2 := H (n : Int) (by omega) (by omega)
    show sm g n + g (n : Int) ≤ sm h n + h (n : Int)
    omega
theorem sm_lt {g h : Int → Int} (n : Nat) (H : ∀ i : Int, 0 ≤ i → i < n → g i ≤ h i) {k : Int} (k0 : 0 ≤ k) (k1 : k < n) (hk : g k < h k) : sm g n < sm h n := by
  induction n with
  | zero => omega
  | succ n ih =>
    have h1 := sm_le (g := g) (h := h) n (fun i a b => H i a (by omega))
    have h2 := H (n : Int) (by omega) (by omega)
    show sm g n + g (n : Int) < sm h n + h (n : Int)
    by_cases hkn : k = n
    · rw [hkn] at hk; omega
    · have h3 := ih (fun i a b => H i a (by omega)) (by omega)
      omega
theorem sm_one {g : Int → Int} {k : Int} (n : Nat) (k0 : 0 ≤ k) (k1 : k < n) (H : ∀ i : Int, 0 ≤ i → i < n → i ≠ k → g i = 0) : sm g n = g k := by
  induction n with
  | zero => omega
  | succ n ih =>
    show sm g n + g (n : Int) = g k
    by_cases hkn : k = n
    · rw [sm_0 n (fun i a b => H i a (by omega) (by omega)), hkn]; omega
    · rw [ih (by omega) (fun i a b => H i a (by omega)), H (n : Int) (by omega) (by omega) (fun hh => hkn hh.symm)]; omega
theorem sm_ext {g : Int → Int} {n N : Nat} (h : n ≤ N) (H : ∀ i : Int, n ≤ i → i < N → g i = 0) : sm g N = sm g n := by
  induction N with
  | zero => have : n = 0 := by omega
            rw [this]
  | succ N ih =>
    by_cases hn : n = N + 1
    · rw [hn]
    · show sm g N + g (N : Int) = sm g n
      rw [ih (by omega) (fun i a b => H i a (by omega)), H (N : Int) (by omega) (by omega)]; omega
theorem bp_le (p : Prop) : 0 ≤ bp p ∧ bp p ≤ 1 := by rcases bp_01 p with h | h <;> omega
theorem bp_mono {p q : Prop} (h : p → q) : bp p ≤ bp q := by
  by_cases hp : p
  · rw [bp_t hp, bp_t (h hp)]; exact Int.le_refl _
  · rw [bp_f hp]; exact (bp_le q).1
def bt (x k : Int) : Prop := ia (x / 2 ^ k.toNat) 1 = 1
theorem bt_tb {x : Int} (hx : 0 ≤ x) (k : Int) : bt x k ↔ x.toNat.testBit k.toNat = true := by
  rw [Nat.testBit_eq_decide_div_mod_eq, decide_eq_true_iff]
  have e1 : x / 2 ^ k.toNat = ((x.toNat / 2 ^ k.toNat : Nat) : Int) := by
    rw [Int.natCast_ediv, Int.toNat_of_nonneg hx]; simp
  unfold bt ia
  rw [e1, Int.toNat_natCast, show (1 : Int).toNat = 1 from rfl, Nat.and_one_is_mod]
  constructor <;> intro h <;> omega
theorem bt_io {x y : Int} (hx : 0 ≤ x) (hy : 0 ≤ y) (k : Int) : bt (io x y) k ↔ bt x k ∨ bt y k := by
  rw [bt_tb (io_nn x y), bt_tb hx, bt_tb hy]
  unfold io
  rw [Int.toNat_natCast, Nat.testBit_or, Bool.or_eq_true]
theorem bt_pw {j k : Int} (hj : 0 ≤ j) (hk : 0 ≤ k) : bt (1 * 2 ^ j.toNat) k ↔ j = k := by
  have e : (1 : Int) * 2 ^ j.toNat = ((2 ^ j.toNat : Nat) : Int) := by simp
  rw [e, bt_tb (Int.natCast_nonneg _), Int.toNat_natCast, Nat.testBit_two_pow, decide_eq_true_iff]
  omega
theorem bt_0 (k : Int) : ¬ bt 0 k := by
  rw [bt_tb (Int.le_refl _)]
  simp
theorem bt_bp {x : Int} (k : Int) : ia (x / 2 ^ k.toNat) 1 = bp (bt x k) := by
  have h := ia_le (x / 2 ^ k.toNat) 1
  have h2 := ia_nn (x / 2 ^ k.toNat) 1
  by_cases hb : bt x k
  · rw [bp_t hb]; exact hb
  · rw [bp_f hb]
    have : ¬ ia (x / 2 ^ k.toNat) 1 = 1 := hb
    have : ia (x / 2 ^ k.toNat) 1 ≤ ((1 : Int).toNat : Int) := h.1
    have e : ((1 : Int).toNat : Int) = 1 := rfl
    omega
theorem ons_sm (x : Int) : ons x = sm (fun k => bp (bt x k)) 16 := by
  unfold ons
  rw [it_sm (fun k => ia (x / 2 ^ k.toNat) 1) 16 0, Int.zero_add]
  exact sm_cg 16 (fun i _ _ => bt_bp i)
/-! the class: labels -/
theorem ab_sy (a b : Int) : ab (a - b) = ab (b - a) := by unfold ab; (repeat' split) <;> omega
theorem gp_sy (p a b : Int) : gp p a b = gp p b a := by
  unfold gp
  have h1 : ix a b = ix b a := by unfold ix; rw [Nat.xor_comm]
  have h2 : fg a b = fg b a := by unfold fg; (repeat' split) <;> omega
  rw [h1, h2, ab_sy a b, ab_sy (a % 4) (b % 4), ab_sy (a / 4) (b / 4)]
theorem ds_sy (m : Mem) (a b : Int) : ds m a b = ds m b a := by
  unfold ds
  exact it_cg _ _ _ (fun i x _ _ => by rw [gp_sy i (m 3 (a * 5 + i))])
theorem ds_cg {m x : Mem} (h3 : x 3 = m 3) (h4 : x 4 = m 4) (a b : Int) : ds x a b = ds m a b := by unfold ds; rw [h3, h4]
def nr (m : Mem) (d a b : Int) : Prop := (0 ≤ a ∧ a < m 2 2) ∧ (0 ≤ b ∧ b < m 2 2) ∧ ds m a b ≤ d
def rch (m : Mem) (d a b : Int) : Prop := ∀ P : Int → Prop, P a → (∀ u v, P u → nr m d u v → P v) → P b
theorem nr.sy {m : Mem} {d a b : Int} (h : nr m d a b) : nr m d b a := ⟨h.2.1, h.1, by rw [ds_sy]; exact h.2.2⟩
theorem rch.rf (m : Mem) (d a : Int) : rch m d a a := fun _ h _ => h
theorem rch.tr {m : Mem} {d a b c : Int} (h : rch m d a b) (h2 : rch m d b c) : rch m d a c := fun P p s => h2 P (h P p s) s
theorem nr.rch {m : Mem} {d a b : Int} (h : nr m d a b) : rch m d a b := fun _ p s => s a b p h
theorem rch.sy {m : Mem} {d a b : Int} (h : rch m d a b) : rch m d b a := h (fun z => rch m d z a) (rch.rf m d a) (fun u v hu huv => rch.tr (nr.rch huv.sy) hu)
theorem jn_at (x : Mem) (a b n : Int) {k : Int} (h0 : 0 ≤ k) (h1 : k < n) : jn x a b n 71 k = if x 71 k = b then a else x 71 k := by
  have h := it_Ij (f := fun k x => jn1 a b k x) (fun i y => ∀ k, y 71 k = if 0 ≤ k ∧ k < i ∧ x 71 k = b then a else x 71 k) n.toNat 0 x (fun i y _ _ hy k => by
    have hi := hy i
    rw [if_neg (by omega)] at hi
    have hk := hy k
    show jn1 a b i y 71 k = _
    unfold jn1
    rw [hi]
    by_cases hki : k = i
    · subst hki
      by_cases hb : x 71 k = b
      · rw [if_pos hb, stm_eq, if_pos ⟨by omega, by omega, hb⟩]
      · rw [if_neg hb, if_neg (fun hh => hb hh.2.2)]; exact hi
    · have e : (if x 71 i = b then stm y 71 i a else y) 71 k = y 71 k := by
        split
        · exact stm_ix _ _ _ hki
        · rfl
      rw [e, hk]
      by_cases hc : 0 ≤ k ∧ k < i ∧ x 71 k = b
      · rw [if_pos hc, if_pos ⟨hc.1, by omega, hc.2.2⟩]
      · rw [if_neg hc, if_neg (fun hh => hc ⟨hh.1, by omega, hh.2.2⟩)]) (fun k => by rw [if_neg (by omega)])
  have hk := h k
  unfold jn
  rw [hk]
  by_cases hb : x 71 k = b
  · rw [if_pos hb, if_pos ⟨h0, by omega, hb⟩]
  · rw [if_neg hb, if_neg (fun hh => hb hh.2.2)]
theorem fj_at {m x : Mem} {d j k : Int} (hn : CN m) (h : FI m x) {a : Int} (ha : 0 ≤ a ∧ a < m 2 2) : fj d j k x 71 a = if ds m j k ≤ d ∧ x 71 a = x 71 k then x 71 j else x 71 a := by
  have n2 := hn.2
  have ed : ds x j k = ds m j k := ds_cg h.1.1.2.1 h.1.2 j k
  unfold fj
  rw [ed]
  by_cases hc : ¬ x 71 j = x 71 k ∧ ds m j k ≤ d
  · rw [if_pos hc, jn_at _ _ _ _ ha.1 (by omega)]
    by_cases hb : x 71 a = x 71 k
    · rw [if_pos hb, if_pos ⟨hc.2, hb⟩]
    · rw [if_neg hb, if_neg (fun hh => hb hh.2)]
  · rw [if_neg hc]
    by_cases hb : ds m j k ≤ d ∧ x 71 a = x 71 k
    · rw [if_pos hb, hb.2]
      by_cases hjk : x 71 j = x 71 k
      · exact hjk.symm
      · exact absurd ⟨hjk, hb.1⟩ hc
    · rw [if_neg hb]
def LB (m : Mem) (d : Int) (D : Int → Int → Prop) (x : Mem) : Prop := FI m x ∧ (∀ a b, (0 ≤ a ∧ a < m 2 2) → (0 ≤ b ∧ b < m 2 2) → x 71 a = x 71 b → rch m d a b) ∧ (∀ a b, (0 ≤ a ∧ a < m 2 2) → (0 ≤ b ∧ b < m 2 2) → D a b → ds m a b ≤ d → x 71 a = x 71 b)
theorem fj_LB {m x : Mem} (hn : CN m) {d j k : Int} {D D' : Int → Int → Prop} (hj : 0 ≤ j ∧ j < m 2 2) (hk : 0 ≤ k ∧ k < m 2 2) (hD : ∀ a b, D' a b → D a b ∨ (a = j ∧ b = k)) (h : LB m d D x) : LB m d D' (fj d j k x) := by
  obtain ⟨h1, h2, h3⟩ := h
  have mono : ∀ a b, (0 ≤ a ∧ a < m 2 2) → (0 ≤ b ∧ b < m 2 2) → x 71 a = x 71 b → fj d j k x 71 a = fj d j k x 71 b := fun a b ha hb e => by rw [fj_at hn h1 ha, fj_at hn h1 hb, e]
  refine ⟨fj_I hn hj h1, fun a b ha hb e => ?_, fun a b ha hb hd he => ?_⟩
  · rw [fj_at hn h1 ha, fj_at hn h1 hb] at e
    by_cases hd : ds m j k ≤ d
    · have r : rch m d j k := nr.rch ⟨hj, hk, hd⟩
      by_cases ea : x 71 a = x 71 k
      · have ra : rch m d a k := h2 a k ha hk ea
        by_cases eb : x 71 b = x 71 k
        · exact ra.tr (h2 b k hb hk eb).sy
        · rw [if_pos ⟨hd, ea⟩, if_neg (fun hh => eb hh.2)] at e
          exact ra.tr (r.sy.tr (h2 j b hj hb e))
      · by_cases eb : x 71 b = x 71 k
        · rw [if_neg (fun hh => ea hh.2), if_pos ⟨hd, eb⟩] at e
          exact (h2 a j ha hj e).tr (r.tr (h2 b k hb hk eb).sy)
        · rw [if_neg (fun hh => ea hh.2), if_neg (fun hh => eb hh.2)] at e
          exact h2 a b ha hb e
    · rw [if_neg (fun hh => hd hh.1), if_neg (fun hh => hd hh.1)] at e
      exact h2 a b ha hb e
  · rcases hD a b hd with h4 | ⟨rfl, rfl⟩
    · exact mono a b ha hb (h3 a b ha hb h4 he)
    · rw [fj_at hn h1 hj, fj_at hn h1 hk, if_pos (show ds m a b ≤ d ∧ x 71 b = x 71 b from ⟨he, rfl⟩)]
      split
      · rfl
      · rfl
theorem lab_rch {m : Mem} (hM : MR m) (hn : CN m) (d : Int) : (∀ k, 0 ≤ k → k < m 2 2 → 0 ≤ fall m d 71 k ∧ fall m d 71 k < m 2 2) ∧ ∀ a b, (0 ≤ a ∧ a < m 2 2) → (0 ≤ b ∧ b < m 2 2) → (fall m d 71 a = fall m d 71 b ↔ rch m d a b) := by
  have n0 := hn.1
  have h0 : LB m d (fun a b => a < b ∧ a < 0) (lbm (flm m 72 16 0) 16) := by
    have hl := lbm_I hM
    have n2 := hn.2
    refine ⟨fall_0 hM hn, fun a b ha hb e => ?_, fun a b ha hb hd _ => by omega⟩
    rw [hl.2.2.1 a ha.1 (by omega), hl.2.2.1 b hb.1 (by omega)] at e
    rw [e]; exact rch.rf m d b
  have h1 := it_Ij (f := fun j x => frw d (m 2 2) j x) (fun j x => LB m d (fun a b => a < b ∧ a < j) x) (m 2 2).toNat 0 _ (fun j x a b hx => by
    have h2 := it_Ij (f := fun k x => fj d j k x) (fun k x => LB m d (fun a b => a < b ∧ (a < j ∨ (a = j ∧ b < k))) x) (m 2 2 - (j + 1)).toNat (j + 1) x (fun k y c e hy => fj_LB hn (by omega) (by omega) (fun a b hab => by omega) hy) ⟨hx.1, hx.2.1, fun a b ha hb hd => hx.2.2 a b ha hb (by omega)⟩
    exact ⟨h2.1, h2.2.1, fun a b ha hb hd => h2.2.2 a b ha hb (by omega)⟩) h0
  have h3 : LB m d (fun a b => a < b ∧ a < 0 + ((m 2 2).toNat : Int)) (fall m d) := h1
  refine ⟨h3.1.2.2.1, fun a b ha hb => ⟨h3.2.1 a b ha hb, fun hr => ?_⟩⟩
  have key : ∀ u v, nr m d u v → fall m d 71 u = fall m d 71 v := fun u v huv => by
    rcases (by omega : u < v ∨ u = v ∨ v < u) with hl | hl | hl
    · exact h3.2.2 u v huv.1 huv.2.1 ⟨hl, by have := huv.1; omega⟩ huv.2.2
    · rw [hl]
    · exact (h3.2.2 v u huv.2.1 huv.1 ⟨hl, by have := huv.2.1; omega⟩ huv.sy.2.2).symm
  exact hr (fun z => fall m d 71 a = fall m d 71 z) rfl (fun u v hu huv => hu.trans (key u v huv))
noncomputable def sz (m : Mem) (d l : Int) : Int := sm (fun k => bp (fall m d 71 k = l)) (m 2 2).toNat
theorem fdm_72 {m : Mem} (hM : MR m) (hn : CN m) (d : Int) {l : Int} (hl : 0 ≤ l ∧ l < 16) : fdm m d 72 l = sz m d l := by
  have hf := fall_I hM hn d
  have h := it_rel (f := fun k x => fsz k x) (g := fun k (y : Int) => y + bp (fall m d 71 k = l)) (fun _ x y => x 71 = fall m d 71 ∧ x 72 l = y) (m 2 2).toNat 0 (fall m d) 0 (fun k x y a b hR => by
    unfold fsz
    refine ⟨(stm_ne _ _ _ (by decide)).trans hR.1, ?_⟩
    rw [stm_inc, hR.2, hR.1]
    by_cases hc : fall m d 71 k = l
    · rw [if_pos hc, bp_t hc]
    · rw [if_neg hc, bp_f hc]) ⟨rfl, by rw [hf.2.2.2, show flm m 72 16 0 72 l = 0 from (fl_get 16 0 l m).1 (by omega)]⟩
  rw [it_sm (fun k => bp (fall m d 71 k = l)), Int.zero_add] at h
  exact h.2
/-- how many labels there are: as many as signs that are the first of their label -/
theorem dist_count (lab : Int → Int) : ∀ n : Nat, (∀ k : Int, 0 ≤ k → k < n → 0 ≤ lab k ∧ lab k < 16) → sm (fun l => bp (0 < sm (fun k => bp (lab k = l)) n)) 16 = sm (fun i => bp (∀ a, 0 ≤ a → a < i → ¬ lab a = lab i)) n
  | 0, _ => sm_0 16 (fun i _ _ => bp_f (by show ¬ (0 : Int) < 0; omega))
  | n + 1, h => by
    have ih := dist_count lab n (fun k a b => h k a (by omega))
    have hl := h (n : Int) (by omega) (by omega)
    have nn : ∀ l, 0 ≤ sm (fun k => bp (lab k = l)) n := fun l => sm_nn n (fun i _ _ => (bp_le _).1)
    have e1 : sm (fun l => bp (0 < sm (fun k => bp (lab k = l)) (n + 1))) 16 = sm (fun l => bp (0 < sm (fun k => bp (lab k = l)) n) + bp (l = lab (n : Int) ∧ ¬ 0 < sm (fun k => bp (lab k = l)) n)) 16 := sm_cg 16 (fun l _ _ => by
      show bp (0 < sm (fun k => bp (lab k = l)) n + bp (lab (n : Int) = l)) = bp (0 < sm (fun k => bp (lab k = l)) n) + bp (l = lab (n : Int) ∧ ¬ 0 < sm (fun k => bp (lab k = l)) n)
      have := nn l
      generalize sm (fun k => bp (lab k = l)) n = S at this
      have hb := bp_le (lab (n : Int) = l)
      by_cases hp : 0 < S
      · have q1 : bp (0 < S + bp (lab (n : Int) = l)) = 1 := bp_t (by omega)
        have q2 : bp (0 < S) = 1 := bp_t hp
        have q3 : bp (l = lab (n : Int) ∧ ¬ 0 < S) = 0 := bp_f (fun hh => hh.2 hp)
        omega
      · have q2 : bp (0 < S) = 0 := bp_f hp
        by_cases he : lab (n : Int) = l
        · have q0 : bp (lab (n : Int) = l) = 1 := bp_t he
          have q1 : bp (0 < S + bp (lab (n : Int) = l)) = 1 := bp_t (by omega)
          have q3 : bp (l = lab (n : Int) ∧ ¬ 0 < S) = 1 := bp_t ⟨he.symm, hp⟩
          omega
        · have q0 : bp (lab (n : Int) = l) = 0 := bp_f he
          have q1 : bp (0 < S + bp (lab (n : Int) = l)) = 0 := bp_f (by omega)
          have q3 : bp (l = lab (n : Int) ∧ ¬ 0 < S) = 0 := bp_f (fun hh => he hh.1.symm)
          omega)
    rw [e1, sm_add, ih]
    show sm _ n + _ = sm _ n + bp (∀ a, 0 ≤ a → a < (n : Int) → ¬ lab a = lab (n : Int))
    rw [sm_one (k := lab (n : Int)) 16 hl.1 hl.2 (fun i _ _ hne => bp_f (fun hh => hne hh.1))]
    refine congrArg _ (bp_congr ⟨fun hh a a0 a1 ea => hh.2 ?_, fun hh => ⟨rfl, fun hp => ?_⟩⟩)
    · have := sm_lt (g := fun _ => 0) (h := fun k => bp (lab k = lab (n : Int))) n (fun i _ _ => (bp_le _).1) a0 a1 (by show 0 < bp (lab a = lab (n : Int)); rw [bp_t ea]; decide)
      rw [sm_0 n (fun _ _ _ => rfl)] at this
      exact this
    · rw [sm_0 n (fun i a b => bp_f (hh i a b))] at hp
      exact absurd hp (by omega)
theorem nu_eq {m : Mem} (hM : MR m) (hn : CN m) (d : Int) : nu (fdm m d) = sm (fun i => bp (∀ a, 0 ≤ a → a < i → ¬ fall m d 71 a = fall m d 71 i)) (m 2 2).toNat := by
  have hl := (lab_rch hM hn d).1
  rw [← dist_count (fall m d 71) (m 2 2).toNat (fun k a b => by have := hl k a (by omega); have := hn.2; omega)]
  unfold nu
  rw [it_cg (g := fun i x => x + bp (0 < sm (fun k => bp (fall m d 71 k = i)) (m 2 2).toNat)) 16 0 0 (fun i x a b => by
    rw [fdm_72 hM hn d ⟨a, by omega⟩]
    unfold sz
    split
    · next hc => rw [bp_t hc]
    · next hc => rw [bp_f hc]; omega)]
  rw [it_sm (fun i => bp (0 < sm (fun k => bp (fall m d 71 k = i)) (m 2 2).toNat)), Int.zero_add]
theorem gre_eq {m : Mem} (hM : MR m) (hn : CN m) (d : Int) : (∀ l, 0 ≤ l → l < 16 → sz m d l ≤ gre (fdm m d)) ∧ (gre (fdm m d) = 0 ∨ ∃ l, 0 ≤ l ∧ l < 16 ∧ gre (fdm m d) = sz m d l) := by
  have h := it_Ij (f := fun i x => mx x (fdm m d 72 i)) (fun i x => (∀ l, 0 ≤ l → l < i → sz m d l ≤ x) ∧ (x = 0 ∨ ∃ l, 0 ≤ l ∧ l < 16 ∧ x = sz m d l)) 16 0 0 (fun i x a b hx => by
    have e := fdm_72 hM hn d (l := i) ⟨a, by omega⟩
    show (∀ l, 0 ≤ l → l < i + 1 → sz m d l ≤ mx x (fdm m d 72 i)) ∧ (mx x (fdm m d 72 i) = 0 ∨ _)
    rw [e]
    unfold mx
    split
    · next hc =>
      refine ⟨fun l l0 l1 => ?_, Or.inr ⟨i, a, by omega, rfl⟩⟩
      by_cases hli : l = i
      · rw [hli]; exact Int.le_refl _
      · have := hx.1 l l0 (by omega); omega
    · next hc =>
      refine ⟨fun l l0 l1 => ?_, hx.2⟩
      by_cases hli : l = i
      · rw [hli]; omega
      · exact hx.1 l l0 (by omega)) ⟨fun l l0 l1 => by omega, Or.inl rfl⟩
  exact ⟨fun l l0 l1 => h.1 l l0 (by omega), h.2⟩
/-! the reference: sets that grow -/
theorem nrf_bt {m : Mem} (h : eq0 m) (hn : CN m) {k d : Int} (hk : 0 ≤ k ∧ k < m 2 2) : 0 ≤ nrf m k d ∧ ∀ i, 0 ≤ i → (bt (nrf m k d) i ↔ nr m d i k) := by
  have n0 := hn.1
  have e0 := h.1
  have hh := it_Ij (f := fun j x => io x (if btw m j k ≤ d then 1 * 2 ^ j.toNat else 0)) (fun j x => 0 ≤ x ∧ ∀ i, 0 ≤ i → (bt x i ↔ i < j ∧ nr m d i k)) (m 77 0).toNat 0 0 (fun j x a b hx => by
    refine ⟨io_nn _ _, fun i i0 => ?_⟩
    have e := q_ds h (j := j) (k := k) a (by omega) hk.1 hk.2
    show bt (io x (if btw m j k ≤ d then 1 * 2 ^ j.toNat else 0)) i ↔ _
    rw [← e]
    by_cases hc : ds m j k ≤ d
    · rw [if_pos hc, bt_io hx.1 (by have := pw16 (j := j) ⟨a, by have := hn.2; omega⟩; omega), bt_pw a i0, hx.2 i i0]
      constructor
      · rintro (hh | hh)
        · exact ⟨by omega, hh.2⟩
        · rw [← hh]; exact ⟨by omega, ⟨a, by omega⟩, hk, hc⟩
      · intro hh
        by_cases hji : j = i
        · exact Or.inr hji
        · exact Or.inl ⟨by omega, hh.2⟩
    · rw [if_neg hc, io_0 hx.1, hx.2 i i0]
      constructor
      · intro hh; exact ⟨by omega, hh.2⟩
      · intro hh
        by_cases hji : j = i
        · rw [← hji] at hh; exact absurd hh.2.2.2 hc
        · exact ⟨by omega, hh.2⟩) ⟨Int.le_refl _, fun i i0 => ⟨fun hh => absurd hh (bt_0 i), fun hh => by omega⟩⟩
  refine ⟨hh.1, fun i i0 => (hh.2 i i0).trans ⟨fun x => x.2, fun x => ⟨by have := x.1; omega, x⟩⟩⟩
theorem grr_bt {m : Mem} (h : eq0 m) (hn : CN m) {d j x : Int} (hx : 0 ≤ x) (hj : 0 ≤ j ∧ j < m 2 2) : 0 ≤ grr m d j x ∧ ∀ i, 0 ≤ i → (bt (grr m d j x) i ↔ bt x i ∨ (bt x j ∧ nr m d i j)) := by
  refine ⟨io_nn _ _, fun i i0 => ?_⟩
  unfold grr
  have hb := nrf_bt h hn (k := j) (d := d) hj
  by_cases hc : bt x j
  · have hc2 : ia (x / 2 ^ j.toNat) 1 = 1 := hc
    rw [if_pos hc2, bt_io hx hb.1, hb.2 i i0]
    exact ⟨fun hh => hh.elim Or.inl (fun q => Or.inr ⟨hc, q⟩), fun hh => hh.elim Or.inl (fun q => Or.inr q.2)⟩
  · have hc2 : ¬ ia (x / 2 ^ j.toNat) 1 = 1 := hc
    rw [if_neg hc2, io_0 hx]
    exact ⟨Or.inl, fun hh => hh.elim id (fun q => absurd q.1 hc)⟩
theorem grw_bt {m : Mem} (h : eq0 m) (hn : CN m) {d x : Int} (hx : 0 ≤ x) : 0 ≤ grw m d x ∧ (∀ i, 0 ≤ i → bt x i → bt (grw m d x) i) ∧ (∀ u v, bt x u → nr m d v u → bt (grw m d x) v) ∧ ∀ P : Int → Prop, (∀ i, 0 ≤ i → bt x i → P i) → (∀ u v, P u → nr m d v u → P v) → ∀ i, 0 ≤ i → bt (grw m d x) i → P i := by
  have n0 := hn.1
  have e0 := h.1
  have hh := it_Ij (f := fun j x => grr m d j x) (fun j y => 0 ≤ y ∧ (∀ i, 0 ≤ i → bt x i → bt y i) ∧ (∀ u v, u < j → bt x u → nr m d v u → bt y v) ∧ ∀ P : Int → Prop, (∀ i, 0 ≤ i → bt x i → P i) → (∀ u v, P u → nr m d v u → P v) → ∀ i, 0 ≤ i → bt y i → P i) (m 77 0).toNat 0 x (fun j y a b hy => by
    have hb := grr_bt h hn (d := d) (j := j) hy.1 ⟨a, by omega⟩
    refine ⟨hb.1, fun i i0 hi => (hb.2 i i0).mpr (Or.inl (hy.2.1 i i0 hi)), fun u v hu hxu huv => ?_, fun P p1 p2 i i0 hi => ?_⟩
    · have v0 : 0 ≤ v := huv.1.1
      by_cases huj : u = j
      · rw [huj] at hxu huv
        exact (hb.2 v v0).mpr (Or.inr ⟨hy.2.1 j a hxu, huv⟩)
      · exact (hb.2 v v0).mpr (Or.inl (hy.2.2.1 u v (by omega) hxu huv))
    · rcases (hb.2 i i0).mp hi with q | ⟨q1, q2⟩
      · exact hy.2.2.2 P p1 p2 i i0 q
      · exact p2 j i (hy.2.2.2 P p1 p2 j a q1) q2) ⟨hx, fun i _ hi => hi, fun u v hu hxu huv => by have := huv.2.1.1; omega, fun P p1 _ i i0 hi => p1 i i0 hi⟩
  exact ⟨hh.1, hh.2.1, fun u v hxu huv => hh.2.2.1 u v (by have := huv.2.1; omega) hxu huv, hh.2.2.2⟩
theorem grp_bt {m : Mem} (h : eq0 m) (hn : CN m) {d k : Int} (hk : 0 ≤ k ∧ k < m 2 2) : 0 ≤ grp m k d ∧ ∀ i, 0 ≤ i → (bt (grp m k d) i ↔ (i < m 2 2 ∧ rch m d k i)) := by
  have n0 := hn.1
  have e0 := h.1
  have p0 : 0 ≤ (1 : Int) * 2 ^ k.toNat := by have := pw16 (j := k) ⟨hk.1, by have := hn.2; omega⟩; omega
  have hh := it_Ij (f := fun _ x => grw m d x) (fun r x => 0 ≤ x ∧ bt x k ∧ (∀ i, 0 ≤ i → bt x i → i < m 2 2 ∧ rch m d k i) ∧ ((∀ u v, bt x u → nr m d v u → bt x v) ∨ r + 1 ≤ sm (fun i => bp (bt x i)) (m 2 2).toNat)) (m 77 0).toNat 0 (1 * 2 ^ k.toNat) (fun r x a b hx => by
    obtain ⟨x0, xk, xs, xc⟩ := hx
    obtain ⟨g0, g1, g2, g3⟩ := grw_bt h hn (d := d) x0
    refine ⟨g0, g1 k hk.1 xk, g3 (fun i => i < m 2 2 ∧ rch m d k i) xs (fun u v hu huv => ⟨huv.1.2, hu.2.tr (nr.rch huv.sy)⟩), ?_⟩
    rcases xc with xc | xc
    · left
      intro u v hu huv
      have hu2 := g3 (fun i => bt x i) (fun i _ hi => hi) xc u huv.2.1.1 hu
      exact g1 v huv.1.1 (xc u v hu2 huv)
    · by_cases hc : ∃ i, 0 ≤ i ∧ i < m 2 2 ∧ bt (grw m d x) i ∧ ¬ bt x i
      · obtain ⟨i, i0, i1, i2, i3⟩ := hc
        right
        have := sm_lt (g := fun i => bp (bt x i)) (h := fun i => bp (bt (grw m d x) i)) (m 2 2).toNat (fun i a _ => bp_mono (g1 i a)) i0 (by omega) (by show bp (bt x i) < bp (bt (grw m d x) i); rw [bp_f i3, bp_t i2]; decide)
        show r + 1 + 1 ≤ sm (fun i => bp (bt (grw m d x) i)) (m 2 2).toNat
        omega
      · left
        have hc2 : ∀ i, 0 ≤ i → i < m 2 2 → bt (grw m d x) i → bt x i := fun i i0 i1 i2 => Classical.byContradiction (fun q => hc ⟨i, i0, i1, i2, q⟩)
        intro u v hu huv
        exact g2 u v (hc2 u huv.2.1.1 huv.2.1.2 hu) huv) ⟨p0, (bt_pw hk.1 hk.1).mpr rfl, fun i i0 hi => by
          have := (bt_pw hk.1 i0).mp hi
          rw [← this]; exact ⟨hk.2, rch.rf m d k⟩, Or.inr (by
          have := sm_lt (g := fun _ => 0) (h := fun i => bp (bt (1 * 2 ^ k.toNat) i)) (m 2 2).toNat (fun i _ _ => (bp_le _).1) hk.1 (by omega) (by show 0 < bp (bt (1 * 2 ^ k.toNat) k); rw [bp_t ((bt_pw hk.1 hk.1).mpr rfl)]; decide)
          rw [sm_0 _ (fun _ _ _ => rfl)] at this
          omega)⟩
  have hg : grp m k d = it (fun _ x => grw m d x) 0 (m 77 0).toNat (1 * 2 ^ k.toNat) := rfl
  rw [← hg] at hh
  obtain ⟨x0, xk, xs, xc⟩ := hh
  have cl : ∀ u v, bt (grp m k d) u → nr m d v u → bt (grp m k d) v := by
    rcases xc with xc | xc
    · exact xc
    · exfalso
      have := sm_le (g := fun i => bp (bt (grp m k d) i)) (h := fun _ => 1) (m 2 2).toNat (fun i _ _ => (bp_le _).2)
      have e1 : ∀ n : Nat, sm (fun _ => 1) n = n := fun n => by
        induction n with
        | zero => rfl
        | succ n ih => show sm (fun _ => 1) n + 1 = _; rw [ih]; omega
      rw [e1] at this
      omega
  refine ⟨x0, fun i i0 => ⟨xs i i0, fun hi => hi.2 (fun z => bt (grp m k d) z) xk (fun u v hu huv => cl u v hu huv.sy)⟩⟩
theorem q_groups {m : Mem} (h : eq0 m) (ho : okm m 1) (hM : MR m) (d : Int) : nu (fdm m d) = (gss m d).1.1 ∧ gre (fdm m d) = (gss m d).1.2 := by
  have hn : CN m := ho.1
  have n0 := hn.1
  have n1 := hn.2
  have e0 := h.1
  obtain ⟨lr, lq⟩ := lab_rch hM hn d
  have hs := it_Ij (f := fun k x => gsr m d k x) (fun k (x : (Int × Int) × Int) => 0 ≤ x.2 ∧ (∀ i, 0 ≤ i → i < m 2 2 → (bt x.2 i ↔ ∃ a, 0 ≤ a ∧ a < k ∧ fall m d 71 a = fall m d 71 i)) ∧ x.1.1 = sm (fun i => bp (∀ a, 0 ≤ a → a < i → ¬ fall m d 71 a = fall m d 71 i)) k.toNat ∧ (∀ a, 0 ≤ a → a < k → sz m d (fall m d 71 a) ≤ x.1.2) ∧ (x.1.2 = 0 ∨ ∃ a, (0 ≤ a ∧ a < m 2 2) ∧ x.1.2 = sz m d (fall m d 71 a))) (m 77 0).toNat 0 ((0, 0), 0) (fun k x a b hx => by
    obtain ⟨x0, x1, x2, x3, x4⟩ := hx
    have hk : 0 ≤ k ∧ k < m 2 2 := ⟨a, by omega⟩
    obtain ⟨g0, g1⟩ := grp_bt h hn (d := d) hk
    have hbit := x1 k hk.1 hk.2
    have ek : (k + 1).toNat = k.toNat + 1 := by omega
    have es : sm (fun i => bp (∀ a, 0 ≤ a → a < i → ¬ fall m d 71 a = fall m d 71 i)) (k + 1).toNat = sm (fun i => bp (∀ a, 0 ≤ a → a < i → ¬ fall m d 71 a = fall m d 71 i)) k.toNat + bp (∀ a, 0 ≤ a → a < k → ¬ fall m d 71 a = fall m d 71 k) := by
      rw [ek]
      show _ + bp (∀ a, 0 ≤ a → a < ((k.toNat : Nat) : Int) → ¬ fall m d 71 a = fall m d 71 ((k.toNat : Nat) : Int)) = _
      rw [Int.toNat_of_nonneg hk.1]
    have gr : ∀ i, 0 ≤ i → i < m 2 2 → (bt (grp m k d) i ↔ fall m d 71 k = fall m d 71 i) := fun i i0 i1 => (g1 i i0).trans ⟨fun q => (lq k i hk ⟨i0, i1⟩).mpr q.2, fun q => ⟨i1, (lq k i hk ⟨i0, i1⟩).mp q⟩⟩
    have eo : ons (grp m k d) = sz m d (fall m d 71 k) := by
      rw [ons_sm, sm_ext (n := (m 2 2).toNat) (by omega) (fun i i0 i1 => bp_f (fun hh => by have := ((g1 i (by omega)).mp hh).1; omega))]
      exact sm_cg _ (fun i i0 i1 => bp_congr ((gr i i0 (by omega)).trans ⟨Eq.symm, Eq.symm⟩))
    show 0 ≤ (gsr m d k x).2 ∧ _
    unfold gsr
    by_cases hc : bt x.2 k
    · have hc2 : ia (x.2 / 2 ^ k.toNat) 1 = 1 := hc
      rw [if_pos hc2]
      obtain ⟨u, u0, u1, u2⟩ := hbit.mp hc
      refine ⟨x0, fun i i0 i1 => (x1 i i0 i1).trans ⟨fun q => ?_, fun q => ?_⟩, ?_, fun v v0 v1 => ?_, x4⟩
      · obtain ⟨w, w0, w1, w2⟩ := q; exact ⟨w, w0, by omega, w2⟩
      · obtain ⟨w, w0, w1, w2⟩ := q
        by_cases hw : w = k
        · rw [hw] at w2; exact ⟨u, u0, u1, u2.trans w2⟩
        · exact ⟨w, w0, by omega, w2⟩
      · rw [es, bp_f (fun hh => hh u u0 u1 u2), x2]; omega
      · by_cases hv : v = k
        · rw [hv, ← u2]; exact x3 u u0 u1
        · exact x3 v v0 (by omega)
    · have hc2 : ¬ ia (x.2 / 2 ^ k.toNat) 1 = 1 := hc
      have hfirst : ∀ a, 0 ≤ a → a < k → ¬ fall m d 71 a = fall m d 71 k := fun a a0 a1 ea => hc (hbit.mpr ⟨a, a0, a1, ea⟩)
      rw [if_neg hc2, eo]
      refine ⟨io_nn _ _, fun i i0 i1 => ?_, ?_, fun v v0 v1 => ?_, ?_⟩
      · show bt (io x.2 (grp m k d)) i ↔ _
        rw [bt_io x0 g0, x1 i i0 i1, gr i i0 i1]
        constructor
        · rintro (⟨w, w0, w1, w2⟩ | q)
          · exact ⟨w, w0, by omega, w2⟩
          · exact ⟨k, hk.1, by omega, q⟩
        · rintro ⟨w, w0, w1, w2⟩
          by_cases hw : w = k
          · rw [hw] at w2; exact Or.inr w2
          · exact Or.inl ⟨w, w0, by omega, w2⟩
      · show x.1.1 + 1 = _
        rw [es, bp_t hfirst, x2]
      · show sz m d (fall m d 71 v) ≤ if x.1.2 < sz m d (fall m d 71 k) then sz m d (fall m d 71 k) else x.1.2
        by_cases hv : v = k
        · rw [hv]; split <;> omega
        · have := x3 v v0 (by omega); split <;> omega
      · show (if x.1.2 < sz m d (fall m d 71 k) then sz m d (fall m d 71 k) else x.1.2) = 0 ∨ ∃ a, (0 ≤ a ∧ a < m 2 2) ∧ (if x.1.2 < sz m d (fall m d 71 k) then sz m d (fall m d 71 k) else x.1.2) = sz m d (fall m d 71 a)
        split
        · exact Or.inr ⟨k, hk, rfl⟩
        · exact x4) ⟨Int.le_refl _, fun i _ _ => ⟨fun q => absurd q (bt_0 i), fun q => by obtain ⟨w, w0, w1, _⟩ := q; omega⟩, rfl, fun v v0 v1 => by omega, Or.inl rfl⟩
  have hg : gss m d = it (fun k x => gsr m d k x) 0 (m 77 0).toNat ((0, 0), 0) := rfl
  rw [← hg] at hs
  obtain ⟨-, -, y2, y3, y4⟩ := hs
  have eN : (0 + ((m 77 0).toNat : Int)).toNat = (m 2 2).toNat := by omega
  rw [eN] at y2
  refine ⟨(nu_eq hM hn d).trans y2.symm, ?_⟩
  obtain ⟨z1, z2⟩ := gre_eq hM hn d
  have znn : ∀ l, 0 ≤ sz m d l := fun l => sm_nn _ (fun i _ _ => (bp_le _).1)
  have a1 : (gss m d).1.2 ≤ gre (fdm m d) := by
    rcases y4 with y4 | ⟨v, v0, v1⟩
    · rw [y4]
      have := z1 0 (by omega) (by omega)
      have := znn 0
      omega
    · rw [v1]
      have := lr v v0.1 v0.2
      exact z1 _ this.1 (by omega)
  have a2 : gre (fdm m d) ≤ (gss m d).1.2 := by
    have g0 : 0 ≤ (gss m d).1.2 := by
      rcases y4 with y4 | ⟨v, v0, v1⟩
      · omega
      · rw [v1]; exact znn _
    rcases z2 with z2 | ⟨l, l0, l1, l2⟩
    · omega
    · rw [l2]
      by_cases hz : 0 < sz m d l
      · have : ∃ v, (0 ≤ v ∧ v < m 2 2) ∧ fall m d 71 v = l := Classical.byContradiction (fun q => by
          have : sz m d l = 0 := sm_0 _ (fun i i0 i1 => bp_f (fun hh => q ⟨i, ⟨i0, by omega⟩, hh⟩))
          omega)
        obtain ⟨v, v0, v1⟩ := this
        rw [← v1]
        exact y3 v v0.1 (by omega)
      · omega
  omega
