/-! ===== the world behind the constructors: 85 places ===== -/
abbrev Row : Type := Int → Int
abbrev Mem : Type := Nat → Int → Int
def sA (G : GG) (n : Nat) : Row → va_E := fun r => .inl (G.2.2.1.1, n, .inl (fun j => J (r j)))
def sZ (G : GG) (n : Nat) : Row → va_E := fun r => .inl (G.2.2.1.2.1, n, .inl (fun j => J (r j)))
def shp (G : GG) : List (Row → va_E) := [
  fun _ => .inr (11, [.ref (G.2.2.2 1), .ref (G.2.2.2 8), .ref (G.2.2.2 52), .ref (G.2.2.2 57), .ref (G.2.2.2 63), .ref (G.2.2.2 64), .ref (G.2.2.2 66), .ref (G.2.2.2 70), .ref (G.2.2.2 73), .ref (G.2.2.2 75)]),
  fun _ => .inr (9, [.ref (G.2.2.2 2), .ref (G.2.2.2 5), .ref (G.2.2.2 7)]),
  fun r => .inr (3, [.ref (G.2.2.2 3), .ref (G.2.2.2 4), .int (J (r 2))]),
  sA G 85,
  sA G 4,
  fun r => .inr (8, [.ref (G.2.2.2 6), .int (J (r 1))]),
  sA G 48,
  sA G 6,
  fun r => .inr (5, [.ref (G.2.2.2 9), .int (J (r 1)), .int (J (r 2))]),
  fun _ => .inl (G.2.2.1.2.2, 6, .inr (.inr (.inr (.inr (fun j => if j = 0 then some (G.2.2.2 10) else if j = 1 then some (G.2.2.2 17) else if j = 2 then some (G.2.2.2 24) else if j = 3 then some (G.2.2.2 31) else if j = 4 then some (G.2.2.2 38) else if j = 5 then some (G.2.2.2 45) else none))))),
  fun _ => .inr (9, [.ref (G.2.2.2 11), .ref (G.2.2.2 14), .ref (G.2.2.2 16)]),
  fun r => .inr (3, [.ref (G.2.2.2 12), .ref (G.2.2.2 13), .int (J (r 2))]),
  sA G 85,
  sA G 4,
  fun r => .inr (8, [.ref (G.2.2.2 15), .int (J (r 1))]),
  sA G 48,
  sA G 6,
  fun _ => .inr (9, [.ref (G.2.2.2 18), .ref (G.2.2.2 21), .ref (G.2.2.2 23)]),
  fun r => .inr (3, [.ref (G.2.2.2 19), .ref (G.2.2.2 20), .int (J (r 2))]),
  sA G 85,
  sA G 4,
  fun r => .inr (8, [.ref (G.2.2.2 22), .int (J (r 1))]),
  sA G 48,
  sA G 6,
  fun _ => .inr (9, [.ref (G.2.2.2 25), .ref (G.2.2.2 28), .ref (G.2.2.2 30)]),
  fun r => .inr (3, [.ref (G.2.2.2 26), .ref (G.2.2.2 27), .int (J (r 2))]),
  sA G 85,
  sA G 4,
  fun r => .inr (8, [.ref (G.2.2.2 29), .int (J (r 1))]),
  sA G 48,
  sA G 6,
  fun _ => .inr (9, [.ref (G.2.2.2 32), .ref (G.2.2.2 35), .ref (G.2.2.2 37)]),
  fun r => .inr (3, [.ref (G.2.2.2 33), .ref (G.2.2.2 34), .int (J (r 2))]),
  sA G 85,
  sA G 4,
  fun r => .inr (8, [.ref (G.2.2.2 36), .int (J (r 1))]),
  sA G 48,
  sA G 6,
  fun _ => .inr (9, [.ref (G.2.2.2 39), .ref (G.2.2.2 42), .ref (G.2.2.2 44)]),
  fun r => .inr (3, [.ref (G.2.2.2 40), .ref (G.2.2.2 41), .int (J (r 2))]),
  sA G 85,
  sA G 4,
  fun r => .inr (8, [.ref (G.2.2.2 43), .int (J (r 1))]),
  sA G 48,
  sA G 6,
  fun _ => .inr (9, [.ref (G.2.2.2 46), .ref (G.2.2.2 49), .ref (G.2.2.2 51)]),
  fun r => .inr (3, [.ref (G.2.2.2 47), .ref (G.2.2.2 48), .int (J (r 2))]),
  sA G 85,
  sA G 4,
  fun r => .inr (8, [.ref (G.2.2.2 50), .int (J (r 1))]),
  sA G 48,
  sA G 6,
  fun r => .inr (7, [.ref (G.2.2.2 53), .int (J (r 1)), .int (J (r 2)), .ref (G.2.2.2 54), .ref (G.2.2.2 55), .ref (G.2.2.2 56), .int (J (r 6))]),
  sA G 120,
  sA G 60,
  sA G 60,
  sA G 360,
  fun r => .inr (4, [.ref (G.2.2.2 58), .ref (G.2.2.2 59), .ref (G.2.2.2 60), .ref (G.2.2.2 61), .ref (G.2.2.2 62), .int (J (r 5)), .int (J (r 6))]),
  sA G 6,
  sA G 16,
  sZ G 16,
  sA G 16,
  sA G 16,
  fun r => .inr (10, [.int (J (r 0)), .int (J (r 1))]),
  fun r => .inr (6, [.ref (G.2.2.2 65), .int (J (r 1))]),
  sA G 32,
  fun r => .inr (0, [.ref (G.2.2.2 67), .ref (G.2.2.2 68), .ref (G.2.2.2 69), .int (J (r 3))]),
  sA G 36,
  sA G 6,
  sA G 6,
  fun _ => .inr (1, [.ref (G.2.2.2 71), .ref (G.2.2.2 72)]),
  sA G 16,
  sA G 16,
  fun _ => .inr (2, [.ref (G.2.2.2 74)]),
  sA G 16,
  sA G 3,
  fun r => .inr (12, [.ref (G.2.2.2 77), .int (J (r 1)), .ref (G.2.2.2 78), .ref (G.2.2.2 79), .int (J (r 4)), .long (JL (r 5)), .ref (G.2.2.2 80), .ref (G.2.2.2 81), .int (J (r 8)), .int (J (r 9)), .ref (G.2.2.2 82), .ref (G.2.2.2 83), .ref (G.2.2.2 84)]),
  sA G 1120,
  sA G 3,
  sA G 120,
  sA G 6,
  sA G 6,
  sA G 60,
  sA G 60,
  sA G 360]
def wdA (a : Nat → Nat) (m : Mem) : Nat → List (Row → va_E) → va_W
  | _, [] => []
  | q, f :: t => (a q, f (m q)) :: wdA a m (q + 1) t
def wd (G : GG) (m : Mem) : va_W := wdA G.2.2.2 m 0 (shp G)
def ur (r : Row) (k z : Int) : Row := fun j => if j = k then z else r j
def sr (m : Mem) (q : Nat) (r : Row) : Mem := fun p => if p = q then r else m p
def stm (m : Mem) (q : Nat) (k z : Int) : Mem := sr m q (ur (m q) k z)
theorem sr_eq (m : Mem) (q : Nat) (r : Row) : sr m q r q = r := if_pos rfl
theorem sr_ne (m : Mem) {p q : Nat} (r : Row) (h : p ≠ q) : sr m q r p = m p := if_neg h
theorem stm_eq (m : Mem) (q : Nat) (k z : Int) : stm m q k z q k = z := by simp [stm, sr, ur]
theorem stm_ne (m : Mem) {p q : Nat} (k z : Int) (h : p ≠ q) : stm m q k z p = m p := sr_ne m _ h
theorem stm_ix (m : Mem) (q : Nat) {j k : Int} (z : Int) (h : j ≠ k) : stm m q k z q j = m q j := by simp [stm, sr, ur, h]
theorem wdA_get (a : Nat → Nat) (m : Mem) : ∀ (S : List (Row → va_E)) (b q : Nat), (wdA a m b S)[q]? = (S[q]?).map (fun f => (a (b + q), f (m (b + q))))
  | [], b, q => by simp [wdA]
  | f :: t, b, 0 => by simp [wdA]
  | f :: t, b, q + 1 => by
    rw [wdA, List.getElem?_cons_succ, wdA_get a m t (b + 1) q, List.getElem?_cons_succ]
    rw [show b + 1 + q = b + (q + 1) by omega]
theorem wd_get {G : GG} {m : Mem} {q : Nat} {f : Row → va_E} (h : (shp G)[q]? = some f) : (wd G m)[q]? = some (G.2.2.2 q, f (m q)) := by
  rw [wd, wdA_get, h]; simp
theorem wd_set {G : GG} {m : Mem} {q : Nat} {f : Row → va_E} (h : (shp G)[q]? = some f) (r : Row) : (wd G m).set q (G.2.2.2 q, f r) = wd G (sr m q r) := by
  apply List.ext_getElem?
  intro j
  have hl : q < (wd G m).length := (List.getElem?_eq_some_iff.mp (wd_get (m := m) h)).1
  by_cases hj : j = q
  · subst hj
    rw [List.getElem?_set_self hl, wd_get h, sr_eq]
  · rw [List.getElem?_set_ne (Ne.symm hj), wd, wd, wdA_get, wdA_get]
    cases (shp G)[j]? with
    | none => rfl
    | some g => simp [sr, hj]
def Qm (G : GG) (Q : Option Value → Mem → Prop) : Option Value → va_W → Prop := fun r ws => ∃ m, ws = wd G m ∧ Q r m
/-- a method over the world's memory: from m it returns, with Q -/
def CM (G : GG) (d : Nat) (M : MM) (av : List Value) (m : Mem) (Q : Option Value → Mem → Prop) : Prop := AM G d 0 0 M av (wd G m) (Qm G Q)
/-- its body -/
abbrev BW (G : GG) (d : Nat) (M : MM) (Q : Option Value → Mem → Prop) (pc : Nat) (L : List (Option Value)) (st : List Value) (m : Mem) : Prop := AW G d 0 0 M XT (mF G 0 0 (Qm G Q)) 0 0 pc L st (wd G m)
theorem AQA.mono {G : GG} {A : Nat → Prop} {Q Q' : Option Value → va_W → Prop} (h : ∀ r w, Q r w → Q' r w) {a : Array Value} {s : State} {o : Outcome} {t : State} (hq : AQA G A Q a s o t) : AQA G A Q' a s o t := by
  obtain ⟨⟨r, w, h1, h2, h3⟩, h4⟩ := hq
  exact ⟨⟨r, w, h1, h r w h2, h3⟩, h4⟩
theorem sh0 (G : GG) : (shp G)[0]? = some (fun _ => .inr (11, [.ref (G.2.2.2 1), .ref (G.2.2.2 8), .ref (G.2.2.2 52), .ref (G.2.2.2 57), .ref (G.2.2.2 63), .ref (G.2.2.2 64), .ref (G.2.2.2 66), .ref (G.2.2.2 70), .ref (G.2.2.2 73), .ref (G.2.2.2 75)])) := rfl
theorem sh1 (G : GG) : (shp G)[1]? = some (fun _ => .inr (9, [.ref (G.2.2.2 2), .ref (G.2.2.2 5), .ref (G.2.2.2 7)])) := rfl
theorem sh2 (G : GG) : (shp G)[2]? = some (fun r => .inr (3, [.ref (G.2.2.2 3), .ref (G.2.2.2 4), .int (J (r 2))])) := rfl
theorem sh3 (G : GG) : (shp G)[3]? = some (sA G 85) := rfl
theorem sh4 (G : GG) : (shp G)[4]? = some (sA G 4) := rfl
theorem sh5 (G : GG) : (shp G)[5]? = some (fun r => .inr (8, [.ref (G.2.2.2 6), .int (J (r 1))])) := rfl
theorem sh6 (G : GG) : (shp G)[6]? = some (sA G 48) := rfl
theorem sh7 (G : GG) : (shp G)[7]? = some (sA G 6) := rfl
theorem sh8 (G : GG) : (shp G)[8]? = some (fun r => .inr (5, [.ref (G.2.2.2 9), .int (J (r 1)), .int (J (r 2))])) := rfl
theorem sh9 (G : GG) : (shp G)[9]? = some (fun _ => .inl (G.2.2.1.2.2, 6, .inr (.inr (.inr (.inr (fun j => if j = 0 then some (G.2.2.2 10) else if j = 1 then some (G.2.2.2 17) else if j = 2 then some (G.2.2.2 24) else if j = 3 then some (G.2.2.2 31) else if j = 4 then some (G.2.2.2 38) else if j = 5 then some (G.2.2.2 45) else none)))))) := rfl
theorem sh10 (G : GG) : (shp G)[10]? = some (fun _ => .inr (9, [.ref (G.2.2.2 11), .ref (G.2.2.2 14), .ref (G.2.2.2 16)])) := rfl
theorem sh11 (G : GG) : (shp G)[11]? = some (fun r => .inr (3, [.ref (G.2.2.2 12), .ref (G.2.2.2 13), .int (J (r 2))])) := rfl
theorem sh12 (G : GG) : (shp G)[12]? = some (sA G 85) := rfl
theorem sh13 (G : GG) : (shp G)[13]? = some (sA G 4) := rfl
theorem sh14 (G : GG) : (shp G)[14]? = some (fun r => .inr (8, [.ref (G.2.2.2 15), .int (J (r 1))])) := rfl
theorem sh15 (G : GG) : (shp G)[15]? = some (sA G 48) := rfl
theorem sh16 (G : GG) : (shp G)[16]? = some (sA G 6) := rfl
theorem sh17 (G : GG) : (shp G)[17]? = some (fun _ => .inr (9, [.ref (G.2.2.2 18), .ref (G.2.2.2 21), .ref (G.2.2.2 23)])) := rfl
theorem sh18 (G : GG) : (shp G)[18]? = some (fun r => .inr (3, [.ref (G.2.2.2 19), .ref (G.2.2.2 20), .int (J (r 2))])) := rfl
theorem sh19 (G : GG) : (shp G)[19]? = some (sA G 85) := rfl
theorem sh20 (G : GG) : (shp G)[20]? = some (sA G 4) := rfl
theorem sh21 (G : GG) : (shp G)[21]? = some (fun r => .inr (8, [.ref (G.2.2.2 22), .int (J (r 1))])) := rfl
theorem sh22 (G : GG) : (shp G)[22]? = some (sA G 48) := rfl
theorem sh23 (G : GG) : (shp G)[23]? = some (sA G 6) := rfl
theorem sh24 (G : GG) : (shp G)[24]? = some (fun _ => .inr (9, [.ref (G.2.2.2 25), .ref (G.2.2.2 28), .ref (G.2.2.2 30)])) := rfl
theorem sh25 (G : GG) : (shp G)[25]? = some (fun r => .inr (3, [.ref (G.2.2.2 26), .ref (G.2.2.2 27), .int (J (r 2))])) := rfl
theorem sh26 (G : GG) : (shp G)[26]? = some (sA G 85) := rfl
theorem sh27 (G : GG) : (shp G)[27]? = some (sA G 4) := rfl
theorem sh28 (G : GG) : (shp G)[28]? = some (fun r => .inr (8, [.ref (G.2.2.2 29), .int (J (r 1))])) := rfl
theorem sh29 (G : GG) : (shp G)[29]? = some (sA G 48) := rfl
theorem sh30 (G : GG) : (shp G)[30]? = some (sA G 6) := rfl
theorem sh31 (G : GG) : (shp G)[31]? = some (fun _ => .inr (9, [.ref (G.2.2.2 32), .ref (G.2.2.2 35), .ref (G.2.2.2 37)])) := rfl
theorem sh32 (G : GG) : (shp G)[32]? = some (fun r => .inr (3, [.ref (G.2.2.2 33), .ref (G.2.2.2 34), .int (J (r 2))])) := rfl
theorem sh33 (G : GG) : (shp G)[33]? = some (sA G 85) := rfl
theorem sh34 (G : GG) : (shp G)[34]? = some (sA G 4) := rfl
theorem sh35 (G : GG) : (shp G)[35]? = some (fun r => .inr (8, [.ref (G.2.2.2 36), .int (J (r 1))])) := rfl
theorem sh36 (G : GG) : (shp G)[36]? = some (sA G 48) := rfl
theorem sh37 (G : GG) : (shp G)[37]? = some (sA G 6) := rfl
theorem sh38 (G : GG) : (shp G)[38]? = some (fun _ => .inr (9, [.ref (G.2.2.2 39), .ref (G.2.2.2 42), .ref (G.2.2.2 44)])) := rfl
theorem sh39 (G : GG) : (shp G)[39]? = some (fun r => .inr (3, [.ref (G.2.2.2 40), .ref (G.2.2.2 41), .int (J (r 2))])) := rfl
theorem sh40 (G : GG) : (shp G)[40]? = some (sA G 85) := rfl
theorem sh41 (G : GG) : (shp G)[41]? = some (sA G 4) := rfl
theorem sh42 (G : GG) : (shp G)[42]? = some (fun r => .inr (8, [.ref (G.2.2.2 43), .int (J (r 1))])) := rfl
theorem sh43 (G : GG) : (shp G)[43]? = some (sA G 48) := rfl
theorem sh44 (G : GG) : (shp G)[44]? = some (sA G 6) := rfl
theorem sh45 (G : GG) : (shp G)[45]? = some (fun _ => .inr (9, [.ref (G.2.2.2 46), .ref (G.2.2.2 49), .ref (G.2.2.2 51)])) := rfl
theorem sh46 (G : GG) : (shp G)[46]? = some (fun r => .inr (3, [.ref (G.2.2.2 47), .ref (G.2.2.2 48), .int (J (r 2))])) := rfl
theorem sh47 (G : GG) : (shp G)[47]? = some (sA G 85) := rfl
theorem sh48 (G : GG) : (shp G)[48]? = some (sA G 4) := rfl
theorem sh49 (G : GG) : (shp G)[49]? = some (fun r => .inr (8, [.ref (G.2.2.2 50), .int (J (r 1))])) := rfl
theorem sh50 (G : GG) : (shp G)[50]? = some (sA G 48) := rfl
theorem sh51 (G : GG) : (shp G)[51]? = some (sA G 6) := rfl
theorem sh52 (G : GG) : (shp G)[52]? = some (fun r => .inr (7, [.ref (G.2.2.2 53), .int (J (r 1)), .int (J (r 2)), .ref (G.2.2.2 54), .ref (G.2.2.2 55), .ref (G.2.2.2 56), .int (J (r 6))])) := rfl
theorem sh53 (G : GG) : (shp G)[53]? = some (sA G 120) := rfl
theorem sh54 (G : GG) : (shp G)[54]? = some (sA G 60) := rfl
theorem sh55 (G : GG) : (shp G)[55]? = some (sA G 60) := rfl
theorem sh56 (G : GG) : (shp G)[56]? = some (sA G 360) := rfl
theorem sh57 (G : GG) : (shp G)[57]? = some (fun r => .inr (4, [.ref (G.2.2.2 58), .ref (G.2.2.2 59), .ref (G.2.2.2 60), .ref (G.2.2.2 61), .ref (G.2.2.2 62), .int (J (r 5)), .int (J (r 6))])) := rfl
theorem sh58 (G : GG) : (shp G)[58]? = some (sA G 6) := rfl
theorem sh59 (G : GG) : (shp G)[59]? = some (sA G 16) := rfl
theorem sh60 (G : GG) : (shp G)[60]? = some (sZ G 16) := rfl
theorem sh61 (G : GG) : (shp G)[61]? = some (sA G 16) := rfl
theorem sh62 (G : GG) : (shp G)[62]? = some (sA G 16) := rfl
theorem sh63 (G : GG) : (shp G)[63]? = some (fun r => .inr (10, [.int (J (r 0)), .int (J (r 1))])) := rfl
theorem sh64 (G : GG) : (shp G)[64]? = some (fun r => .inr (6, [.ref (G.2.2.2 65), .int (J (r 1))])) := rfl
theorem sh65 (G : GG) : (shp G)[65]? = some (sA G 32) := rfl
theorem sh66 (G : GG) : (shp G)[66]? = some (fun r => .inr (0, [.ref (G.2.2.2 67), .ref (G.2.2.2 68), .ref (G.2.2.2 69), .int (J (r 3))])) := rfl
theorem sh67 (G : GG) : (shp G)[67]? = some (sA G 36) := rfl
theorem sh68 (G : GG) : (shp G)[68]? = some (sA G 6) := rfl
theorem sh69 (G : GG) : (shp G)[69]? = some (sA G 6) := rfl
theorem sh70 (G : GG) : (shp G)[70]? = some (fun _ => .inr (1, [.ref (G.2.2.2 71), .ref (G.2.2.2 72)])) := rfl
theorem sh71 (G : GG) : (shp G)[71]? = some (sA G 16) := rfl
theorem sh72 (G : GG) : (shp G)[72]? = some (sA G 16) := rfl
theorem sh73 (G : GG) : (shp G)[73]? = some (fun _ => .inr (2, [.ref (G.2.2.2 74)])) := rfl
theorem sh74 (G : GG) : (shp G)[74]? = some (sA G 16) := rfl
theorem sh75 (G : GG) : (shp G)[75]? = some (sA G 3) := rfl
theorem sh76 (G : GG) : (shp G)[76]? = some (fun r => .inr (12, [.ref (G.2.2.2 77), .int (J (r 1)), .ref (G.2.2.2 78), .ref (G.2.2.2 79), .int (J (r 4)), .long (JL (r 5)), .ref (G.2.2.2 80), .ref (G.2.2.2 81), .int (J (r 8)), .int (J (r 9)), .ref (G.2.2.2 82), .ref (G.2.2.2 83), .ref (G.2.2.2 84)])) := rfl
theorem sh77 (G : GG) : (shp G)[77]? = some (sA G 1120) := rfl
theorem sh78 (G : GG) : (shp G)[78]? = some (sA G 3) := rfl
theorem sh79 (G : GG) : (shp G)[79]? = some (sA G 120) := rfl
theorem sh80 (G : GG) : (shp G)[80]? = some (sA G 6) := rfl
theorem sh81 (G : GG) : (shp G)[81]? = some (sA G 6) := rfl
theorem sh82 (G : GG) : (shp G)[82]? = some (sA G 60) := rfl
theorem sh83 (G : GG) : (shp G)[83]? = some (sA G 60) := rfl
theorem sh84 (G : GG) : (shp G)[84]? = some (sA G 360) := rfl
