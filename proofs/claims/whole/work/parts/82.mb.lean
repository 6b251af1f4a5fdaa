/-! ===== the constructors ===== -/
section PG
variable {G : GG} {d mc ms : Nat} {M : MM} {X : XX} {F : FF} {k n pc pc' i : Nat} {L : List (Option Value)} {st : List Value} {ws : va_W}
theorem x_putG {idx ci kf q a N : Nat} {C : String} {T : u_T} {ty : Nat → FieldType} {fty : FieldType} {fs : List Value} {v : Value} (hi : M.2.2.2.2[i]? = some (pc, .putfield idx, 3)) (hp : pc + 3 = pc') (hcd : CD ci C T N ty) (hk : kf < N) (hfin : (T kf).2.2.2 = true) (hty : ty kf = fty) (hlk : Cond.fieldLink M.1.cls idx (T kf).1 (T kf).2.1 (T kf).2.2.1 ∈ lw_tbl) (hin : M.1.name = "<init>") (hown : (T kf).1 = M.1.cls) (hq : ws[q]? = some (a, .inr (ci, fs))) (hl0 : kf < fs.length) (hn : narrow fty v = v) (hfit : fits fty v = true)
    (kk : AW G d mc ms M X F k n pc' L st (ws.set q (a, .inr (ci, fs.set kf v)))) : AW G d mc ms M X F k n pc L (v :: .ref a :: st) ws := by
  subst hp
  intro p e R s m args below meth c H locs A ls hc hP hD hS hl
  obtain ⟨h1, h2, h3, h4⟩ := hcd
  have h5 := h3 kf hk
  rw [hty] at h5
  exact va_putF hc.1.1 hc.1.2.1 (u_ws_use hc.2.1.2.2.1 h2) (fun _ h => h) ty h3 h4 hc.1.2.2.2.2 hc.2.1.2.2.2.1 hP hD hS q hq h1 kf hk (hc.2.1.2.2.1.use hlk rfl rfl) (fun _ h => h) hfin (hc.2.1.2.1.trans hin) hown h5 hn hfit hl0 (hc.dec hi) (fun H1 locs1 hP1 hD1 hS1 => kk p e R s m args below meth c H1 locs1 A ls hc hP1 hD1 hS1 hl)
end PG
def r0 : Row := fun _ => 0

set_option maxRecDepth 100000 in
theorem c_X3 {G : GG} {a : Nat} : AM G 1 2 89 mX3_init [.ref a] [(a, .inr (3, [.null, .null, .int (J 0)]))] (fun r w => r = none ∧ ∃ b1 b2 : Nat, w = [(a, .inr (3, [.ref b1, .ref b2, .int (J 0)])), (b1, sA G 85 r0), (b2, sA G 4 (ur (ur (ur (ur r0 0 1) 1 1) 2 1) 3 1))]) := by
  refine AM.ofAW [some _] rfl (Nat.le_of_ble_eq_true rfl) (Or.inl rfl) dkX3_init ?_
  refine x_aload_n (i := 0) (pc' := 1) rfl rfl rfl rfl ?_
  refine x_oinit (i := 1) (pc' := 4) rfl rfl (by decide) (Nat.le_of_ble_eq_true rfl) (List.mem_of_getElem? (i := 120) (by decide +kernel)) (List.mem_of_getElem? (i := 107) (by decide +kernel)) (List.mem_of_getElem? (i := 108) (by decide +kernel)) ?_
  refine x_aload_n (i := 2) (pc' := 5) rfl rfl rfl rfl ?_
  refine x_bipush (i := 3) (pc' := 7) rfl rfl (by decide) ?_
  refine x_newi (N := 85) (i := 4) (pc' := 9) rfl rfl rfl (by decide) (List.mem_of_getElem? (i := 134) (by decide +kernel)) (Nat.le_of_ble_eq_true rfl) (Nat.le_of_ble_eq_true rfl) (fun b1 => ?_)
  show AW G 1 2 89 mX3_init XT _ 1 85 9 [some (.ref a)] [.ref b1, .ref a] [(a, .inr (3, [.null, .null, .int (J 0)])), (b1, sA G 85 r0)]
  refine x_putG (q := 0) (kf := 0) (i := 5) (pc' := 12) rfl rfl cd3 (by decide) rfl rfl (List.mem_of_getElem? (i := 121) (by decide +kernel)) rfl rfl rfl (Nat.le_of_ble_eq_true rfl) rfl rfl ?_
  show AW G 1 2 89 mX3_init XT _ 1 85 12 [some (.ref a)] [] [(a, .inr (3, [.ref b1, .null, .int (J 0)])), (b1, sA G 85 r0)]
  refine x_aload_n (i := 6) (pc' := 13) rfl rfl rfl rfl ?_
  refine x_iconst (i := 7) (pc' := 14) rfl rfl ?_
  refine x_newi (N := 4) (i := 8) (pc' := 16) rfl rfl rfl (by decide) (List.mem_of_getElem? (i := 134) (by decide +kernel)) (Nat.le_of_ble_eq_true rfl) (Nat.le_of_ble_eq_true rfl) (fun b2 => ?_)
  show AW G 1 2 89 mX3_init XT _ 2 89 16 [some (.ref a)] [.ref b2, .ref a] [(a, .inr (3, [.ref b1, .null, .int (J 0)])), (b1, sA G 85 r0), (b2, sA G 4 r0)]
  refine x_dup (i := 9) (pc' := 17) rfl rfl rfl ?_
  refine x_iconst (i := 10) (pc' := 18) rfl rfl ?_
  refine x_iconst (i := 11) (pc' := 19) rfl rfl ?_
  refine x_iastJ (q := 2) (i := 12) (pc' := 20) rfl rfl rfl ⟨by decide, by decide⟩ (by decide) ?_
  show AW G 1 2 89 mX3_init XT _ 2 89 20 [some (.ref a)] [.ref b2, .ref a] [(a, .inr (3, [.ref b1, .null, .int (J 0)])), (b1, sA G 85 r0), (b2, sA G 4 (ur r0 0 1))]
  refine x_dup (i := 13) (pc' := 21) rfl rfl rfl ?_
  refine x_iconst (i := 14) (pc' := 22) rfl rfl ?_
  refine x_iconst (i := 15) (pc' := 23) rfl rfl ?_
  refine x_iastJ (q := 2) (i := 16) (pc' := 24) rfl rfl rfl ⟨by decide, by decide⟩ (by decide) ?_
  show AW G 1 2 89 mX3_init XT _ 2 89 24 [some (.ref a)] [.ref b2, .ref a] [(a, .inr (3, [.ref b1, .null, .int (J 0)])), (b1, sA G 85 r0), (b2, sA G 4 (ur (ur r0 0 1) 1 1))]
  refine x_dup (i := 17) (pc' := 25) rfl rfl rfl ?_
  refine x_iconst (i := 18) (pc' := 26) rfl rfl ?_
  refine x_iconst (i := 19) (pc' := 27) rfl rfl ?_
  refine x_iastJ (q := 2) (i := 20) (pc' := 28) rfl rfl rfl ⟨by decide, by decide⟩ (by decide) ?_
  show AW G 1 2 89 mX3_init XT _ 2 89 28 [some (.ref a)] [.ref b2, .ref a] [(a, .inr (3, [.ref b1, .null, .int (J 0)])), (b1, sA G 85 r0), (b2, sA G 4 (ur (ur (ur r0 0 1) 1 1) 2 1))]
  refine x_dup (i := 21) (pc' := 29) rfl rfl rfl ?_
  refine x_iconst (i := 22) (pc' := 30) rfl rfl ?_
  refine x_iconst (i := 23) (pc' := 31) rfl rfl ?_
  refine x_iastJ (q := 2) (i := 24) (pc' := 32) rfl rfl rfl ⟨by decide, by decide⟩ (by decide) ?_
  show AW G 1 2 89 mX3_init XT _ 2 89 32 [some (.ref a)] [.ref b2, .ref a] [(a, .inr (3, [.ref b1, .null, .int (J 0)])), (b1, sA G 85 r0), (b2, sA G 4 (ur (ur (ur (ur r0 0 1) 1 1) 2 1) 3 1))]
  refine x_putG (q := 0) (kf := 1) (i := 25) (pc' := 35) rfl rfl cd3 (by decide) rfl rfl (List.mem_of_getElem? (i := 122) (by decide +kernel)) rfl rfl rfl (Nat.le_of_ble_eq_true rfl) rfl rfl ?_
  show AW G 1 2 89 mX3_init XT _ 2 89 35 [some (.ref a)] [] [(a, .inr (3, [.ref b1, .ref b2, .int (J 0)])), (b1, sA G 85 r0), (b2, sA G 4 (ur (ur (ur (ur r0 0 1) 1 1) 2 1) 3 1))]
  refine x_aload_n (i := 26) (pc' := 36) rfl rfl rfl rfl ?_
  refine x_iconst (i := 27) (pc' := 37) rfl rfl ?_
  refine x_putf (q := 0) (i := 28) (pc' := 40) rfl rfl flX3_18 rfl (Nat.le_of_ble_eq_true rfl) rfl rfl ?_
  show AW G 1 2 89 mX3_init XT _ 2 89 40 [some (.ref a)] [] [(a, .inr (3, [.ref b1, .ref b2, .int (J 0)])), (b1, sA G 85 r0), (b2, sA G 4 (ur (ur (ur (ur r0 0 1) 1 1) 2 1) 3 1))]
  refine x_sub (ws' := [(a, .inr (3, [.ref b1, .ref b2, .int (J 0)])), (b1, sA G 85 r0), (b2, sA G 4 (ur (ur (ur (ur r0 0 1) 1 1) 2 1) 3 1))]) [0, 1, 2] rfl rfl rfl ?_
  exact x_return (i := 29) rfl rfl (Nat.le_of_ble_eq_true rfl) (Nat.le_of_ble_eq_true rfl) ⟨rfl, b1, b2, rfl⟩
set_option maxRecDepth 100000 in
theorem c_X8 {G : GG} {a : Nat} : AM G 1 1 48 mX8_init [.ref a] [(a, .inr (8, [.null, .int (J 0)]))] (fun r w => r = none ∧ ∃ b1 : Nat, w = [(a, .inr (8, [.ref b1, .int (J 0)])), (b1, sA G 48 r0)]) := by
  refine AM.ofAW [some _] rfl (Nat.le_of_ble_eq_true rfl) (Or.inl rfl) dkX8_init ?_
  refine x_aload_n (i := 0) (pc' := 1) rfl rfl rfl rfl ?_
  refine x_oinit (i := 1) (pc' := 4) rfl rfl (by decide) (Nat.le_of_ble_eq_true rfl) (List.mem_of_getElem? (i := 140) (by decide +kernel)) (List.mem_of_getElem? (i := 107) (by decide +kernel)) (List.mem_of_getElem? (i := 108) (by decide +kernel)) ?_
  refine x_aload_n (i := 2) (pc' := 5) rfl rfl rfl rfl ?_
  refine x_bipush (i := 3) (pc' := 7) rfl rfl (by decide) ?_
  refine x_newi (N := 48) (i := 4) (pc' := 9) rfl rfl rfl (by decide) (List.mem_of_getElem? (i := 134) (by decide +kernel)) (Nat.le_of_ble_eq_true rfl) (Nat.le_of_ble_eq_true rfl) (fun b1 => ?_)
  show AW G 1 1 48 mX8_init XT _ 1 48 9 [some (.ref a)] [.ref b1, .ref a] [(a, .inr (8, [.null, .int (J 0)])), (b1, sA G 48 r0)]
  refine x_putG (q := 0) (kf := 0) (i := 5) (pc' := 12) rfl rfl cd8 (by decide) rfl rfl (List.mem_of_getElem? (i := 141) (by decide +kernel)) rfl rfl rfl (Nat.le_of_ble_eq_true rfl) rfl rfl ?_
  show AW G 1 1 48 mX8_init XT _ 1 48 12 [some (.ref a)] [] [(a, .inr (8, [.ref b1, .int (J 0)])), (b1, sA G 48 r0)]
  refine x_aload_n (i := 6) (pc' := 13) rfl rfl rfl rfl ?_
  refine x_iconst (i := 7) (pc' := 14) rfl rfl ?_
  refine x_putf (q := 0) (i := 8) (pc' := 17) rfl rfl flX8_15 rfl (Nat.le_of_ble_eq_true rfl) rfl rfl ?_
  show AW G 1 1 48 mX8_init XT _ 1 48 17 [some (.ref a)] [] [(a, .inr (8, [.ref b1, .int (J 0)])), (b1, sA G 48 r0)]
  refine x_sub (ws' := [(a, .inr (8, [.ref b1, .int (J 0)])), (b1, sA G 48 r0)]) [0, 1] rfl rfl rfl ?_
  exact x_return (i := 9) rfl rfl (Nat.le_of_ble_eq_true rfl) (Nat.le_of_ble_eq_true rfl) ⟨rfl, b1, rfl⟩
set_option maxRecDepth 100000 in
theorem c_X9 {G : GG} {a : Nat} : AM G 2 6 148 mX9_init [.ref a] [(a, .inr (9, [.null, .null, .null]))] (fun r w => r = none ∧ ∃ b1 b2 b3 b4 b5 b6 : Nat, w = [(a, .inr (9, [.ref b1, .ref b4, .ref b6])), (b1, .inr (3, [.ref b2, .ref b3, .int (J 0)])), (b2, sA G 85 r0), (b3, sA G 4 (ur (ur (ur (ur r0 0 1) 1 1) 2 1) 3 1)), (b4, .inr (8, [.ref b5, .int (J 0)])), (b5, sA G 48 r0), (b6, sA G 6 (ur (ur (ur (ur (ur (ur r0 0 0) 1 1) 2 2) 3 3) 4 4) 5 5))]) := by
  refine AM.ofAW [some _] rfl (Nat.le_of_ble_eq_true rfl) (Or.inl rfl) dkX9_init ?_
  refine x_aload_n (i := 0) (pc' := 1) rfl rfl rfl rfl ?_
  refine x_oinit (i := 1) (pc' := 4) rfl rfl (by decide) (Nat.le_of_ble_eq_true rfl) (List.mem_of_getElem? (i := 114) (by decide +kernel)) (List.mem_of_getElem? (i := 107) (by decide +kernel)) (List.mem_of_getElem? (i := 108) (by decide +kernel)) ?_
  refine x_aload_n (i := 2) (pc' := 5) rfl rfl rfl rfl ?_
  refine x_newo (fs := [.null, .null, .int (J 0)]) (i := 3) (pc' := 8) rfl rfl cd3 (List.mem_of_getElem? (i := 115) (by decide +kernel)) (List.mem_of_getElem? (i := 116) (by decide +kernel)) (List.mem_of_getElem? (i := 86) (by decide +kernel)) (fun j hj => by rcases (by omega : j = 0 ∨ j = 1 ∨ j = 2) with rfl | rfl | rfl <;> rfl) (Nat.le_of_ble_eq_true rfl) (Nat.le_of_ble_eq_true rfl) (fun b1 => ?_)
  show AW G 2 6 148 mX9_init XT _ 1 3 8 [some (.ref a)] [.ref b1, .ref a] [(a, .inr (9, [.null, .null, .null])), (b1, .inr (3, [.null, .null, .int (J 0)]))]
  refine x_dup (i := 4) (pc' := 9) rfl rfl rfl ?_
  refine x_callIF [1] [0] (i := 5) (pc' := 12) rfl rfl (by decide) lX9_11 rfl rfl (Nat.le_of_ble_eq_true rfl) (Nat.le_of_ble_eq_true rfl) (Nat.le_of_ble_eq_true rfl) (wc := [(b1, .inr (3, [.null, .null, .int (J 0)]))]) rfl rfl rfl (wr := [(a, .inr (9, [.null, .null, .null]))]) rfl rfl rfl (av := []) (rest := [.ref b1, .ref a]) c_X3 (fun r w1 hr => ?_)
  obtain ⟨rfl, b2, b3, rfl⟩ := hr
  show AW G 2 6 148 mX9_init XT _ 3 92 12 [some (.ref a)] [.ref b1, .ref a] [(a, .inr (9, [.null, .null, .null])), (b1, .inr (3, [.ref b2, .ref b3, .int (J 0)])), (b2, sA G 85 r0), (b3, sA G 4 (ur (ur (ur (ur r0 0 1) 1 1) 2 1) 3 1))]
  refine x_putG (q := 0) (kf := 0) (i := 6) (pc' := 15) rfl rfl cd9 (by decide) rfl rfl (List.mem_of_getElem? (i := 152) (by decide +kernel)) rfl rfl rfl (Nat.le_of_ble_eq_true rfl) rfl rfl ?_
  show AW G 2 6 148 mX9_init XT _ 3 92 15 [some (.ref a)] [] [(a, .inr (9, [.ref b1, .null, .null])), (b1, .inr (3, [.ref b2, .ref b3, .int (J 0)])), (b2, sA G 85 r0), (b3, sA G 4 (ur (ur (ur (ur r0 0 1) 1 1) 2 1) 3 1))]
  refine x_aload_n (i := 7) (pc' := 16) rfl rfl rfl rfl ?_
  refine x_newo (fs := [.null, .int (J 0)]) (i := 8) (pc' := 19) rfl rfl cd8 (List.mem_of_getElem? (i := 135) (by decide +kernel)) (List.mem_of_getElem? (i := 136) (by decide +kernel)) (List.mem_of_getElem? (i := 87) (by decide +kernel)) (fun j hj => by rcases (by omega : j = 0 ∨ j = 1) with rfl | rfl <;> rfl) (Nat.le_of_ble_eq_true rfl) (Nat.le_of_ble_eq_true rfl) (fun b4 => ?_)
  show AW G 2 6 148 mX9_init XT _ 4 94 19 [some (.ref a)] [.ref b4, .ref a] [(a, .inr (9, [.ref b1, .null, .null])), (b1, .inr (3, [.ref b2, .ref b3, .int (J 0)])), (b2, sA G 85 r0), (b3, sA G 4 (ur (ur (ur (ur r0 0 1) 1 1) 2 1) 3 1)), (b4, .inr (8, [.null, .int (J 0)]))]
  refine x_dup (i := 9) (pc' := 20) rfl rfl rfl ?_
  refine x_callIF [4] [0, 1, 2, 3] (i := 10) (pc' := 23) rfl rfl (by decide) lX9_20 rfl rfl (Nat.le_of_ble_eq_true rfl) (Nat.le_of_ble_eq_true rfl) (Nat.le_of_ble_eq_true rfl) (wc := [(b4, .inr (8, [.null, .int (J 0)]))]) rfl rfl rfl (wr := [(a, .inr (9, [.ref b1, .null, .null])), (b1, .inr (3, [.ref b2, .ref b3, .int (J 0)])), (b2, sA G 85 r0), (b3, sA G 4 (ur (ur (ur (ur r0 0 1) 1 1) 2 1) 3 1))]) rfl rfl rfl (av := []) (rest := [.ref b4, .ref a]) c_X8 (fun r w1 hr => ?_)
  obtain ⟨rfl, b5, rfl⟩ := hr
  show AW G 2 6 148 mX9_init XT _ 5 142 23 [some (.ref a)] [.ref b4, .ref a] [(a, .inr (9, [.ref b1, .null, .null])), (b1, .inr (3, [.ref b2, .ref b3, .int (J 0)])), (b2, sA G 85 r0), (b3, sA G 4 (ur (ur (ur (ur r0 0 1) 1 1) 2 1) 3 1)), (b4, .inr (8, [.ref b5, .int (J 0)])), (b5, sA G 48 r0)]
  refine x_putG (q := 0) (kf := 1) (i := 11) (pc' := 26) rfl rfl cd9 (by decide) rfl rfl (List.mem_of_getElem? (i := 154) (by decide +kernel)) rfl rfl rfl (Nat.le_of_ble_eq_true rfl) rfl rfl ?_
  show AW G 2 6 148 mX9_init XT _ 5 142 26 [some (.ref a)] [] [(a, .inr (9, [.ref b1, .ref b4, .null])), (b1, .inr (3, [.ref b2, .ref b3, .int (J 0)])), (b2, sA G 85 r0), (b3, sA G 4 (ur (ur (ur (ur r0 0 1) 1 1) 2 1) 3 1)), (b4, .inr (8, [.ref b5, .int (J 0)])), (b5, sA G 48 r0)]
  refine x_aload_n (i := 12) (pc' := 27) rfl rfl rfl rfl ?_
  refine x_bipush (i := 13) (pc' := 29) rfl rfl (by decide) ?_
  refine x_newi (N := 6) (i := 14) (pc' := 31) rfl rfl rfl (by decide) (List.mem_of_getElem? (i := 134) (by decide +kernel)) (Nat.le_of_ble_eq_true rfl) (Nat.le_of_ble_eq_true rfl) (fun b6 => ?_)
  show AW G 2 6 148 mX9_init XT _ 6 148 31 [some (.ref a)] [.ref b6, .ref a] [(a, .inr (9, [.ref b1, .ref b4, .null])), (b1, .inr (3, [.ref b2, .ref b3, .int (J 0)])), (b2, sA G 85 r0), (b3, sA G 4 (ur (ur (ur (ur r0 0 1) 1 1) 2 1) 3 1)), (b4, .inr (8, [.ref b5, .int (J 0)])), (b5, sA G 48 r0), (b6, sA G 6 r0)]
  refine x_dup (i := 15) (pc' := 32) rfl rfl rfl ?_
  refine x_iconst (i := 16) (pc' := 33) rfl rfl ?_
  refine x_iconst (i := 17) (pc' := 34) rfl rfl ?_
  refine x_iastJ (q := 6) (i := 18) (pc' := 35) rfl rfl rfl ⟨by decide, by decide⟩ (by decide) ?_
  show AW G 2 6 148 mX9_init XT _ 6 148 35 [some (.ref a)] [.ref b6, .ref a] [(a, .inr (9, [.ref b1, .ref b4, .null])), (b1, .inr (3, [.ref b2, .ref b3, .int (J 0)])), (b2, sA G 85 r0), (b3, sA G 4 (ur (ur (ur (ur r0 0 1) 1 1) 2 1) 3 1)), (b4, .inr (8, [.ref b5, .int (J 0)])), (b5, sA G 48 r0), (b6, sA G 6 (ur r0 0 0))]
  refine x_dup (i := 19) (pc' := 36) rfl rfl rfl ?_
  refine x_iconst (i := 20) (pc' := 37) rfl rfl ?_
  refine x_iconst (i := 21) (pc' := 38) rfl rfl ?_
  refine x_iastJ (q := 6) (i := 22) (pc' := 39) rfl rfl rfl ⟨by decide, by decide⟩ (by decide) ?_
  show AW G 2 6 148 mX9_init XT _ 6 148 39 [some (.ref a)] [.ref b6, .ref a] [(a, .inr (9, [.ref b1, .ref b4, .null])), (b1, .inr (3, [.ref b2, .ref b3, .int (J 0)])), (b2, sA G 85 r0), (b3, sA G 4 (ur (ur (ur (ur r0 0 1) 1 1) 2 1) 3 1)), (b4, .inr (8, [.ref b5, .int (J 0)])), (b5, sA G 48 r0), (b6, sA G 6 (ur (ur r0 0 0) 1 1))]
  refine x_dup (i := 23) (pc' := 40) rfl rfl rfl ?_
  refine x_iconst (i := 24) (pc' := 41) rfl rfl ?_
  refine x_iconst (i := 25) (pc' := 42) rfl rfl ?_
  refine x_iastJ (q := 6) (i := 26) (pc' := 43) rfl rfl rfl ⟨by decide, by decide⟩ (by decide) ?_
  show AW G 2 6 148 mX9_init XT _ 6 148 43 [some (.ref a)] [.ref b6, .ref a] [(a, .inr (9, [.ref b1, .ref b4, .null])), (b1, .inr (3, [.ref b2, .ref b3, .int (J 0)])), (b2, sA G 85 r0), (b3, sA G 4 (ur (ur (ur (ur r0 0 1) 1 1) 2 1) 3 1)), (b4, .inr (8, [.ref b5, .int (J 0)])), (b5, sA G 48 r0), (b6, sA G 6 (ur (ur (ur r0 0 0) 1 1) 2 2))]
  refine x_dup (i := 27) (pc' := 44) rfl rfl rfl ?_
  refine x_iconst (i := 28) (pc' := 45) rfl rfl ?_
  refine x_iconst (i := 29) (pc' := 46) rfl rfl ?_
  refine x_iastJ (q := 6) (i := 30) (pc' := 47) rfl rfl rfl ⟨by decide, by decide⟩ (by decide) ?_
  show AW G 2 6 148 mX9_init XT _ 6 148 47 [some (.ref a)] [.ref b6, .ref a] [(a, .inr (9, [.ref b1, .ref b4, .null])), (b1, .inr (3, [.ref b2, .ref b3, .int (J 0)])), (b2, sA G 85 r0), (b3, sA G 4 (ur (ur (ur (ur r0 0 1) 1 1) 2 1) 3 1)), (b4, .inr (8, [.ref b5, .int (J 0)])), (b5, sA G 48 r0), (b6, sA G 6 (ur (ur (ur (ur r0 0 0) 1 1) 2 2) 3 3))]
  refine x_dup (i := 31) (pc' := 48) rfl rfl rfl ?_
  refine x_iconst (i := 32) (pc' := 49) rfl rfl ?_
  refine x_iconst (i := 33) (pc' := 50) rfl rfl ?_
  refine x_iastJ (q := 6) (i := 34) (pc' := 51) rfl rfl rfl ⟨by decide, by decide⟩ (by decide) ?_
  show AW G 2 6 148 mX9_init XT _ 6 148 51 [some (.ref a)] [.ref b6, .ref a] [(a, .inr (9, [.ref b1, .ref b4, .null])), (b1, .inr (3, [.ref b2, .ref b3, .int (J 0)])), (b2, sA G 85 r0), (b3, sA G 4 (ur (ur (ur (ur r0 0 1) 1 1) 2 1) 3 1)), (b4, .inr (8, [.ref b5, .int (J 0)])), (b5, sA G 48 r0), (b6, sA G 6 (ur (ur (ur (ur (ur r0 0 0) 1 1) 2 2) 3 3) 4 4))]
  refine x_dup (i := 35) (pc' := 52) rfl rfl rfl ?_
  refine x_iconst (i := 36) (pc' := 53) rfl rfl ?_
  refine x_iconst (i := 37) (pc' := 54) rfl rfl ?_
  refine x_iastJ (q := 6) (i := 38) (pc' := 55) rfl rfl rfl ⟨by decide, by decide⟩ (by decide) ?_
  show AW G 2 6 148 mX9_init XT _ 6 148 55 [some (.ref a)] [.ref b6, .ref a] [(a, .inr (9, [.ref b1, .ref b4, .null])), (b1, .inr (3, [.ref b2, .ref b3, .int (J 0)])), (b2, sA G 85 r0), (b3, sA G 4 (ur (ur (ur (ur r0 0 1) 1 1) 2 1) 3 1)), (b4, .inr (8, [.ref b5, .int (J 0)])), (b5, sA G 48 r0), (b6, sA G 6 (ur (ur (ur (ur (ur (ur r0 0 0) 1 1) 2 2) 3 3) 4 4) 5 5))]
  refine x_putG (q := 0) (kf := 2) (i := 39) (pc' := 58) rfl rfl cd9 (by decide) rfl rfl (List.mem_of_getElem? (i := 158) (by decide +kernel)) rfl rfl rfl (Nat.le_of_ble_eq_true rfl) rfl rfl ?_
  show AW G 2 6 148 mX9_init XT _ 6 148 58 [some (.ref a)] [] [(a, .inr (9, [.ref b1, .ref b4, .ref b6])), (b1, .inr (3, [.ref b2, .ref b3, .int (J 0)])), (b2, sA G 85 r0), (b3, sA G 4 (ur (ur (ur (ur r0 0 1) 1 1) 2 1) 3 1)), (b4, .inr (8, [.ref b5, .int (J 0)])), (b5, sA G 48 r0), (b6, sA G 6 (ur (ur (ur (ur (ur (ur r0 0 0) 1 1) 2 2) 3 3) 4 4) 5 5))]
  refine x_sub (ws' := [(a, .inr (9, [.ref b1, .ref b4, .ref b6])), (b1, .inr (3, [.ref b2, .ref b3, .int (J 0)])), (b2, sA G 85 r0), (b3, sA G 4 (ur (ur (ur (ur r0 0 1) 1 1) 2 1) 3 1)), (b4, .inr (8, [.ref b5, .int (J 0)])), (b5, sA G 48 r0), (b6, sA G 6 (ur (ur (ur (ur (ur (ur r0 0 0) 1 1) 2 2) 3 3) 4 4) 5 5))]) [0, 1, 2, 3, 4, 5, 6] rfl rfl rfl ?_
  exact x_return (i := 40) rfl rfl (Nat.le_of_ble_eq_true rfl) (Nat.le_of_ble_eq_true rfl) ⟨rfl, b1, b2, b3, b4, b5, b6, rfl⟩
set_option maxRecDepth 100000 in
theorem c_X7 {G : GG} {a : Nat} : AM G 1 4 600 mX7_init [.ref a] [(a, .inr (7, [.null, .int (J 0), .int (J 0), .null, .null, .null, .int (J 0)]))] (fun r w => r = none ∧ ∃ b1 b2 b3 b4 : Nat, w = [(a, .inr (7, [.ref b1, .int (J 0), .int (J 0), .ref b2, .ref b3, .ref b4, .int (J 0)])), (b1, sA G 120 r0), (b2, sA G 60 r0), (b3, sA G 60 r0), (b4, sA G 360 r0)]) := by
  refine AM.ofAW [some _] rfl (Nat.le_of_ble_eq_true rfl) (Or.inl rfl) dkX7_init ?_
  refine x_aload_n (i := 0) (pc' := 1) rfl rfl rfl rfl ?_
  refine x_oinit (i := 1) (pc' := 4) rfl rfl (by decide) (Nat.le_of_ble_eq_true rfl) (List.mem_of_getElem? (i := 192) (by decide +kernel)) (List.mem_of_getElem? (i := 107) (by decide +kernel)) (List.mem_of_getElem? (i := 108) (by decide +kernel)) ?_
  refine x_aload_n (i := 2) (pc' := 5) rfl rfl rfl rfl ?_
  refine x_bipush (i := 3) (pc' := 7) rfl rfl (by decide) ?_
  refine x_newi (N := 120) (i := 4) (pc' := 9) rfl rfl rfl (by decide) (List.mem_of_getElem? (i := 134) (by decide +kernel)) (Nat.le_of_ble_eq_true rfl) (Nat.le_of_ble_eq_true rfl) (fun b1 => ?_)
  show AW G 1 4 600 mX7_init XT _ 1 120 9 [some (.ref a)] [.ref b1, .ref a] [(a, .inr (7, [.null, .int (J 0), .int (J 0), .null, .null, .null, .int (J 0)])), (b1, sA G 120 r0)]
  refine x_putG (q := 0) (kf := 0) (i := 5) (pc' := 12) rfl rfl cd7 (by decide) rfl rfl (List.mem_of_getElem? (i := 193) (by decide +kernel)) rfl rfl rfl (Nat.le_of_ble_eq_true rfl) rfl rfl ?_
  show AW G 1 4 600 mX7_init XT _ 1 120 12 [some (.ref a)] [] [(a, .inr (7, [.ref b1, .int (J 0), .int (J 0), .null, .null, .null, .int (J 0)])), (b1, sA G 120 r0)]
  refine x_aload_n (i := 6) (pc' := 13) rfl rfl rfl rfl ?_
  refine x_iconst (i := 7) (pc' := 14) rfl rfl ?_
  refine x_putf (q := 0) (i := 8) (pc' := 17) rfl rfl flX7_15 rfl (Nat.le_of_ble_eq_true rfl) rfl rfl ?_
  show AW G 1 4 600 mX7_init XT _ 1 120 17 [some (.ref a)] [] [(a, .inr (7, [.ref b1, .int (J 0), .int (J 0), .null, .null, .null, .int (J 0)])), (b1, sA G 120 r0)]
  refine x_aload_n (i := 9) (pc' := 18) rfl rfl rfl rfl ?_
  refine x_iconst (i := 10) (pc' := 19) rfl rfl ?_
  refine x_putf (q := 0) (i := 11) (pc' := 22) rfl rfl flX7_19 rfl (Nat.le_of_ble_eq_true rfl) rfl rfl ?_
  show AW G 1 4 600 mX7_init XT _ 1 120 22 [some (.ref a)] [] [(a, .inr (7, [.ref b1, .int (J 0), .int (J 0), .null, .null, .null, .int (J 0)])), (b1, sA G 120 r0)]
  refine x_aload_n (i := 12) (pc' := 23) rfl rfl rfl rfl ?_
  refine x_bipush (i := 13) (pc' := 25) rfl rfl (by decide) ?_
  refine x_newi (N := 60) (i := 14) (pc' := 27) rfl rfl rfl (by decide) (List.mem_of_getElem? (i := 134) (by decide +kernel)) (Nat.le_of_ble_eq_true rfl) (Nat.le_of_ble_eq_true rfl) (fun b2 => ?_)
  show AW G 1 4 600 mX7_init XT _ 2 180 27 [some (.ref a)] [.ref b2, .ref a] [(a, .inr (7, [.ref b1, .int (J 0), .int (J 0), .null, .null, .null, .int (J 0)])), (b1, sA G 120 r0), (b2, sA G 60 r0)]
  refine x_putG (q := 0) (kf := 3) (i := 15) (pc' := 30) rfl rfl cd7 (by decide) rfl rfl (List.mem_of_getElem? (i := 197) (by decide +kernel)) rfl rfl rfl (Nat.le_of_ble_eq_true rfl) rfl rfl ?_
  show AW G 1 4 600 mX7_init XT _ 2 180 30 [some (.ref a)] [] [(a, .inr (7, [.ref b1, .int (J 0), .int (J 0), .ref b2, .null, .null, .int (J 0)])), (b1, sA G 120 r0), (b2, sA G 60 r0)]
  refine x_aload_n (i := 16) (pc' := 31) rfl rfl rfl rfl ?_
  refine x_bipush (i := 17) (pc' := 33) rfl rfl (by decide) ?_
  refine x_newi (N := 60) (i := 18) (pc' := 35) rfl rfl rfl (by decide) (List.mem_of_getElem? (i := 134) (by decide +kernel)) (Nat.le_of_ble_eq_true rfl) (Nat.le_of_ble_eq_true rfl) (fun b3 => ?_)
  show AW G 1 4 600 mX7_init XT _ 3 240 35 [some (.ref a)] [.ref b3, .ref a] [(a, .inr (7, [.ref b1, .int (J 0), .int (J 0), .ref b2, .null, .null, .int (J 0)])), (b1, sA G 120 r0), (b2, sA G 60 r0), (b3, sA G 60 r0)]
  refine x_putG (q := 0) (kf := 4) (i := 19) (pc' := 38) rfl rfl cd7 (by decide) rfl rfl (List.mem_of_getElem? (i := 198) (by decide +kernel)) rfl rfl rfl (Nat.le_of_ble_eq_true rfl) rfl rfl ?_
  show AW G 1 4 600 mX7_init XT _ 3 240 38 [some (.ref a)] [] [(a, .inr (7, [.ref b1, .int (J 0), .int (J 0), .ref b2, .ref b3, .null, .int (J 0)])), (b1, sA G 120 r0), (b2, sA G 60 r0), (b3, sA G 60 r0)]
  refine x_aload_n (i := 20) (pc' := 39) rfl rfl rfl rfl ?_
  refine x_sipush (i := 21) (pc' := 42) rfl rfl (by decide) ?_
  refine x_newi (N := 360) (i := 22) (pc' := 44) rfl rfl rfl (by decide) (List.mem_of_getElem? (i := 134) (by decide +kernel)) (Nat.le_of_ble_eq_true rfl) (Nat.le_of_ble_eq_true rfl) (fun b4 => ?_)
  show AW G 1 4 600 mX7_init XT _ 4 600 44 [some (.ref a)] [.ref b4, .ref a] [(a, .inr (7, [.ref b1, .int (J 0), .int (J 0), .ref b2, .ref b3, .null, .int (J 0)])), (b1, sA G 120 r0), (b2, sA G 60 r0), (b3, sA G 60 r0), (b4, sA G 360 r0)]
  refine x_putG (q := 0) (kf := 5) (i := 23) (pc' := 47) rfl rfl cd7 (by decide) rfl rfl (List.mem_of_getElem? (i := 199) (by decide +kernel)) rfl rfl rfl (Nat.le_of_ble_eq_true rfl) rfl rfl ?_
  show AW G 1 4 600 mX7_init XT _ 4 600 47 [some (.ref a)] [] [(a, .inr (7, [.ref b1, .int (J 0), .int (J 0), .ref b2, .ref b3, .ref b4, .int (J 0)])), (b1, sA G 120 r0), (b2, sA G 60 r0), (b3, sA G 60 r0), (b4, sA G 360 r0)]
  refine x_aload_n (i := 24) (pc' := 48) rfl rfl rfl rfl ?_
  refine x_iconst (i := 25) (pc' := 49) rfl rfl ?_
  refine x_putf (q := 0) (i := 26) (pc' := 52) rfl rfl flX7_31 rfl (Nat.le_of_ble_eq_true rfl) rfl rfl ?_
  show AW G 1 4 600 mX7_init XT _ 4 600 52 [some (.ref a)] [] [(a, .inr (7, [.ref b1, .int (J 0), .int (J 0), .ref b2, .ref b3, .ref b4, .int (J 0)])), (b1, sA G 120 r0), (b2, sA G 60 r0), (b3, sA G 60 r0), (b4, sA G 360 r0)]
  refine x_sub (ws' := [(a, .inr (7, [.ref b1, .int (J 0), .int (J 0), .ref b2, .ref b3, .ref b4, .int (J 0)])), (b1, sA G 120 r0), (b2, sA G 60 r0), (b3, sA G 60 r0), (b4, sA G 360 r0)]) [0, 1, 2, 3, 4] rfl rfl rfl ?_
  exact x_return (i := 27) rfl rfl (Nat.le_of_ble_eq_true rfl) (Nat.le_of_ble_eq_true rfl) ⟨rfl, b1, b2, b3, b4, rfl⟩
set_option maxRecDepth 100000 in
theorem c_X4 {G : GG} {a : Nat} : AM G 1 5 70 mX4_init [.ref a] [(a, .inr (4, [.null, .null, .null, .null, .null, .int (J 0), .int (J 0)]))] (fun r w => r = none ∧ ∃ b1 b2 b3 b4 b5 : Nat, w = [(a, .inr (4, [.ref b1, .ref b2, .ref b3, .ref b4, .ref b5, .int (J 0), .int (J 0)])), (b1, sA G 6 r0), (b2, sA G 16 r0), (b3, sZ G 16 r0), (b4, sA G 16 r0), (b5, sA G 16 r0)]) := by
  refine AM.ofAW [some _] rfl (Nat.le_of_ble_eq_true rfl) (Or.inl rfl) dkX4_init ?_
  refine x_aload_n (i := 0) (pc' := 1) rfl rfl rfl rfl ?_
  refine x_oinit (i := 1) (pc' := 4) rfl rfl (by decide) (Nat.le_of_ble_eq_true rfl) (List.mem_of_getElem? (i := 222) (by decide +kernel)) (List.mem_of_getElem? (i := 107) (by decide +kernel)) (List.mem_of_getElem? (i := 108) (by decide +kernel)) ?_
  refine x_aload_n (i := 2) (pc' := 5) rfl rfl rfl rfl ?_
  refine x_bipush (i := 3) (pc' := 7) rfl rfl (by decide) ?_
  refine x_newi (N := 6) (i := 4) (pc' := 9) rfl rfl rfl (by decide) (List.mem_of_getElem? (i := 134) (by decide +kernel)) (Nat.le_of_ble_eq_true rfl) (Nat.le_of_ble_eq_true rfl) (fun b1 => ?_)
  show AW G 1 5 70 mX4_init XT _ 1 6 9 [some (.ref a)] [.ref b1, .ref a] [(a, .inr (4, [.null, .null, .null, .null, .null, .int (J 0), .int (J 0)])), (b1, sA G 6 r0)]
  refine x_putG (q := 0) (kf := 0) (i := 5) (pc' := 12) rfl rfl cd4 (by decide) rfl rfl (List.mem_of_getElem? (i := 223) (by decide +kernel)) rfl rfl rfl (Nat.le_of_ble_eq_true rfl) rfl rfl ?_
  show AW G 1 5 70 mX4_init XT _ 1 6 12 [some (.ref a)] [] [(a, .inr (4, [.ref b1, .null, .null, .null, .null, .int (J 0), .int (J 0)])), (b1, sA G 6 r0)]
  refine x_aload_n (i := 6) (pc' := 13) rfl rfl rfl rfl ?_
  refine x_bipush (i := 7) (pc' := 15) rfl rfl (by decide) ?_
  refine x_newi (N := 16) (i := 8) (pc' := 17) rfl rfl rfl (by decide) (List.mem_of_getElem? (i := 134) (by decide +kernel)) (Nat.le_of_ble_eq_true rfl) (Nat.le_of_ble_eq_true rfl) (fun b2 => ?_)
  show AW G 1 5 70 mX4_init XT _ 2 22 17 [some (.ref a)] [.ref b2, .ref a] [(a, .inr (4, [.ref b1, .null, .null, .null, .null, .int (J 0), .int (J 0)])), (b1, sA G 6 r0), (b2, sA G 16 r0)]
  refine x_putG (q := 0) (kf := 1) (i := 9) (pc' := 20) rfl rfl cd4 (by decide) rfl rfl (List.mem_of_getElem? (i := 224) (by decide +kernel)) rfl rfl rfl (Nat.le_of_ble_eq_true rfl) rfl rfl ?_
  show AW G 1 5 70 mX4_init XT _ 2 22 20 [some (.ref a)] [] [(a, .inr (4, [.ref b1, .ref b2, .null, .null, .null, .int (J 0), .int (J 0)])), (b1, sA G 6 r0), (b2, sA G 16 r0)]
  refine x_aload_n (i := 10) (pc' := 21) rfl rfl rfl rfl ?_
  refine x_bipush (i := 11) (pc' := 23) rfl rfl (by decide) ?_
  refine x_newz (N := 16) (i := 12) (pc' := 25) rfl rfl rfl (by decide) (List.mem_of_getElem? (i := 251) (by decide +kernel)) (Nat.le_of_ble_eq_true rfl) (Nat.le_of_ble_eq_true rfl) (fun b3 => ?_)
  show AW G 1 5 70 mX4_init XT _ 3 38 25 [some (.ref a)] [.ref b3, .ref a] [(a, .inr (4, [.ref b1, .ref b2, .null, .null, .null, .int (J 0), .int (J 0)])), (b1, sA G 6 r0), (b2, sA G 16 r0), (b3, sZ G 16 r0)]
  refine x_putG (q := 0) (kf := 2) (i := 13) (pc' := 28) rfl rfl cd4 (by decide) rfl rfl (List.mem_of_getElem? (i := 226) (by decide +kernel)) rfl rfl rfl (Nat.le_of_ble_eq_true rfl) rfl rfl ?_
  show AW G 1 5 70 mX4_init XT _ 3 38 28 [some (.ref a)] [] [(a, .inr (4, [.ref b1, .ref b2, .ref b3, .null, .null, .int (J 0), .int (J 0)])), (b1, sA G 6 r0), (b2, sA G 16 r0), (b3, sZ G 16 r0)]
  refine x_aload_n (i := 14) (pc' := 29) rfl rfl rfl rfl ?_
  refine x_bipush (i := 15) (pc' := 31) rfl rfl (by decide) ?_
  refine x_newi (N := 16) (i := 16) (pc' := 33) rfl rfl rfl (by decide) (List.mem_of_getElem? (i := 134) (by decide +kernel)) (Nat.le_of_ble_eq_true rfl) (Nat.le_of_ble_eq_true rfl) (fun b4 => ?_)
  show AW G 1 5 70 mX4_init XT _ 4 54 33 [some (.ref a)] [.ref b4, .ref a] [(a, .inr (4, [.ref b1, .ref b2, .ref b3, .null, .null, .int (J 0), .int (J 0)])), (b1, sA G 6 r0), (b2, sA G 16 r0), (b3, sZ G 16 r0), (b4, sA G 16 r0)]
  refine x_putG (q := 0) (kf := 3) (i := 17) (pc' := 36) rfl rfl cd4 (by decide) rfl rfl (List.mem_of_getElem? (i := 228) (by decide +kernel)) rfl rfl rfl (Nat.le_of_ble_eq_true rfl) rfl rfl ?_
  show AW G 1 5 70 mX4_init XT _ 4 54 36 [some (.ref a)] [] [(a, .inr (4, [.ref b1, .ref b2, .ref b3, .ref b4, .null, .int (J 0), .int (J 0)])), (b1, sA G 6 r0), (b2, sA G 16 r0), (b3, sZ G 16 r0), (b4, sA G 16 r0)]
  refine x_aload_n (i := 18) (pc' := 37) rfl rfl rfl rfl ?_
  refine x_bipush (i := 19) (pc' := 39) rfl rfl (by decide) ?_
  refine x_newi (N := 16) (i := 20) (pc' := 41) rfl rfl rfl (by decide) (List.mem_of_getElem? (i := 134) (by decide +kernel)) (Nat.le_of_ble_eq_true rfl) (Nat.le_of_ble_eq_true rfl) (fun b5 => ?_)
  show AW G 1 5 70 mX4_init XT _ 5 70 41 [some (.ref a)] [.ref b5, .ref a] [(a, .inr (4, [.ref b1, .ref b2, .ref b3, .ref b4, .null, .int (J 0), .int (J 0)])), (b1, sA G 6 r0), (b2, sA G 16 r0), (b3, sZ G 16 r0), (b4, sA G 16 r0), (b5, sA G 16 r0)]
  refine x_putG (q := 0) (kf := 4) (i := 21) (pc' := 44) rfl rfl cd4 (by decide) rfl rfl (List.mem_of_getElem? (i := 230) (by decide +kernel)) rfl rfl rfl (Nat.le_of_ble_eq_true rfl) rfl rfl ?_
  show AW G 1 5 70 mX4_init XT _ 5 70 44 [some (.ref a)] [] [(a, .inr (4, [.ref b1, .ref b2, .ref b3, .ref b4, .ref b5, .int (J 0), .int (J 0)])), (b1, sA G 6 r0), (b2, sA G 16 r0), (b3, sZ G 16 r0), (b4, sA G 16 r0), (b5, sA G 16 r0)]
  refine x_aload_n (i := 22) (pc' := 45) rfl rfl rfl rfl ?_
  refine x_iconst (i := 23) (pc' := 46) rfl rfl ?_
  refine x_putf (q := 0) (i := 24) (pc' := 49) rfl rfl flX4_28 rfl (Nat.le_of_ble_eq_true rfl) rfl rfl ?_
  show AW G 1 5 70 mX4_init XT _ 5 70 49 [some (.ref a)] [] [(a, .inr (4, [.ref b1, .ref b2, .ref b3, .ref b4, .ref b5, .int (J 0), .int (J 0)])), (b1, sA G 6 r0), (b2, sA G 16 r0), (b3, sZ G 16 r0), (b4, sA G 16 r0), (b5, sA G 16 r0)]
  refine x_aload_n (i := 25) (pc' := 50) rfl rfl rfl rfl ?_
  refine x_iconst (i := 26) (pc' := 51) rfl rfl ?_
  refine x_putf (q := 0) (i := 27) (pc' := 54) rfl rfl flX4_32 rfl (Nat.le_of_ble_eq_true rfl) rfl rfl ?_
  show AW G 1 5 70 mX4_init XT _ 5 70 54 [some (.ref a)] [] [(a, .inr (4, [.ref b1, .ref b2, .ref b3, .ref b4, .ref b5, .int (J 0), .int (J 0)])), (b1, sA G 6 r0), (b2, sA G 16 r0), (b3, sZ G 16 r0), (b4, sA G 16 r0), (b5, sA G 16 r0)]
  refine x_sub (ws' := [(a, .inr (4, [.ref b1, .ref b2, .ref b3, .ref b4, .ref b5, .int (J 0), .int (J 0)])), (b1, sA G 6 r0), (b2, sA G 16 r0), (b3, sZ G 16 r0), (b4, sA G 16 r0), (b5, sA G 16 r0)]) [0, 1, 2, 3, 4, 5] rfl rfl rfl ?_
  exact x_return (i := 28) rfl rfl (Nat.le_of_ble_eq_true rfl) (Nat.le_of_ble_eq_true rfl) ⟨rfl, b1, b2, b3, b4, b5, rfl⟩
set_option maxRecDepth 100000 in
theorem c_X10 {G : GG} {a : Nat} : AM G 1 0 0 mX10_init [.ref a] [(a, .inr (10, [.int (J 0), .int (J 0)]))] (fun r w => r = none ∧ w = [(a, .inr (10, [.int (J 0), .int (J 0)]))]) := by
  refine AM.ofAW [some _] rfl (Nat.le_of_ble_eq_true rfl) (Or.inl rfl) dkX10_init ?_
  refine x_aload_n (i := 0) (pc' := 1) rfl rfl rfl rfl ?_
  refine x_oinit (i := 1) (pc' := 4) rfl rfl (by decide) (Nat.le_of_ble_eq_true rfl) (List.mem_of_getElem? (i := 257) (by decide +kernel)) (List.mem_of_getElem? (i := 107) (by decide +kernel)) (List.mem_of_getElem? (i := 108) (by decide +kernel)) ?_
  refine x_aload_n (i := 2) (pc' := 5) rfl rfl rfl rfl ?_
  refine x_iconst (i := 3) (pc' := 6) rfl rfl ?_
  refine x_putf (q := 0) (i := 4) (pc' := 9) rfl rfl flX10_9 rfl (Nat.le_of_ble_eq_true rfl) rfl rfl ?_
  show AW G 1 0 0 mX10_init XT _ 0 0 9 [some (.ref a)] [] [(a, .inr (10, [.int (J 0), .int (J 0)]))]
  refine x_aload_n (i := 5) (pc' := 10) rfl rfl rfl rfl ?_
  refine x_iconst (i := 6) (pc' := 11) rfl rfl ?_
  refine x_putf (q := 0) (i := 7) (pc' := 14) rfl rfl flX10_15 rfl (Nat.le_of_ble_eq_true rfl) rfl rfl ?_
  show AW G 1 0 0 mX10_init XT _ 0 0 14 [some (.ref a)] [] [(a, .inr (10, [.int (J 0), .int (J 0)]))]
  refine x_sub (ws' := [(a, .inr (10, [.int (J 0), .int (J 0)]))]) [0] rfl rfl rfl ?_
  exact x_return (i := 8) rfl rfl (Nat.le_of_ble_eq_true rfl) (Nat.le_of_ble_eq_true rfl) ⟨rfl, rfl⟩
set_option maxRecDepth 100000 in
theorem c_X6 {G : GG} {a : Nat} : AM G 1 1 32 mX6_init [.ref a] [(a, .inr (6, [.null, .int (J 0)]))] (fun r w => r = none ∧ ∃ b1 : Nat, w = [(a, .inr (6, [.ref b1, .int (J 0)])), (b1, sA G 32 r0)]) := by
  refine AM.ofAW [some _] rfl (Nat.le_of_ble_eq_true rfl) (Or.inl rfl) dkX6_init ?_
  refine x_aload_n (i := 0) (pc' := 1) rfl rfl rfl rfl ?_
  refine x_oinit (i := 1) (pc' := 4) rfl rfl (by decide) (Nat.le_of_ble_eq_true rfl) (List.mem_of_getElem? (i := 272) (by decide +kernel)) (List.mem_of_getElem? (i := 107) (by decide +kernel)) (List.mem_of_getElem? (i := 108) (by decide +kernel)) ?_
  refine x_aload_n (i := 2) (pc' := 5) rfl rfl rfl rfl ?_
  refine x_bipush (i := 3) (pc' := 7) rfl rfl (by decide) ?_
  refine x_newi (N := 32) (i := 4) (pc' := 9) rfl rfl rfl (by decide) (List.mem_of_getElem? (i := 134) (by decide +kernel)) (Nat.le_of_ble_eq_true rfl) (Nat.le_of_ble_eq_true rfl) (fun b1 => ?_)
  show AW G 1 1 32 mX6_init XT _ 1 32 9 [some (.ref a)] [.ref b1, .ref a] [(a, .inr (6, [.null, .int (J 0)])), (b1, sA G 32 r0)]
  refine x_putG (q := 0) (kf := 0) (i := 5) (pc' := 12) rfl rfl cd6 (by decide) rfl rfl (List.mem_of_getElem? (i := 273) (by decide +kernel)) rfl rfl rfl (Nat.le_of_ble_eq_true rfl) rfl rfl ?_
  show AW G 1 1 32 mX6_init XT _ 1 32 12 [some (.ref a)] [] [(a, .inr (6, [.ref b1, .int (J 0)])), (b1, sA G 32 r0)]
  refine x_aload_n (i := 6) (pc' := 13) rfl rfl rfl rfl ?_
  refine x_iconst (i := 7) (pc' := 14) rfl rfl ?_
  refine x_putf (q := 0) (i := 8) (pc' := 17) rfl rfl flX6_15 rfl (Nat.le_of_ble_eq_true rfl) rfl rfl ?_
  show AW G 1 1 32 mX6_init XT _ 1 32 17 [some (.ref a)] [] [(a, .inr (6, [.ref b1, .int (J 0)])), (b1, sA G 32 r0)]
  refine x_sub (ws' := [(a, .inr (6, [.ref b1, .int (J 0)])), (b1, sA G 32 r0)]) [0, 1] rfl rfl rfl ?_
  exact x_return (i := 9) rfl rfl (Nat.le_of_ble_eq_true rfl) (Nat.le_of_ble_eq_true rfl) ⟨rfl, b1, rfl⟩
set_option maxRecDepth 100000 in
theorem c_X0 {G : GG} {a : Nat} : AM G 1 3 48 mX0_init [.ref a] [(a, .inr (0, [.null, .null, .null, .int (J 0)]))] (fun r w => r = none ∧ ∃ b1 b2 b3 : Nat, w = [(a, .inr (0, [.ref b1, .ref b2, .ref b3, .int (J 0)])), (b1, sA G 36 r0), (b2, sA G 6 r0), (b3, sA G 6 r0)]) := by
  refine AM.ofAW [some _] rfl (Nat.le_of_ble_eq_true rfl) (Or.inl rfl) dkX0_init ?_
  refine x_aload_n (i := 0) (pc' := 1) rfl rfl rfl rfl ?_
  refine x_oinit (i := 1) (pc' := 4) rfl rfl (by decide) (Nat.le_of_ble_eq_true rfl) (List.mem_of_getElem? (i := 286) (by decide +kernel)) (List.mem_of_getElem? (i := 107) (by decide +kernel)) (List.mem_of_getElem? (i := 108) (by decide +kernel)) ?_
  refine x_aload_n (i := 2) (pc' := 5) rfl rfl rfl rfl ?_
  refine x_bipush (i := 3) (pc' := 7) rfl rfl (by decide) ?_
  refine x_newi (N := 36) (i := 4) (pc' := 9) rfl rfl rfl (by decide) (List.mem_of_getElem? (i := 134) (by decide +kernel)) (Nat.le_of_ble_eq_true rfl) (Nat.le_of_ble_eq_true rfl) (fun b1 => ?_)
  show AW G 1 3 48 mX0_init XT _ 1 36 9 [some (.ref a)] [.ref b1, .ref a] [(a, .inr (0, [.null, .null, .null, .int (J 0)])), (b1, sA G 36 r0)]
  refine x_putG (q := 0) (kf := 0) (i := 5) (pc' := 12) rfl rfl cd0 (by decide) rfl rfl (List.mem_of_getElem? (i := 287) (by decide +kernel)) rfl rfl rfl (Nat.le_of_ble_eq_true rfl) rfl rfl ?_
  show AW G 1 3 48 mX0_init XT _ 1 36 12 [some (.ref a)] [] [(a, .inr (0, [.ref b1, .null, .null, .int (J 0)])), (b1, sA G 36 r0)]
  refine x_aload_n (i := 6) (pc' := 13) rfl rfl rfl rfl ?_
  refine x_bipush (i := 7) (pc' := 15) rfl rfl (by decide) ?_
  refine x_newi (N := 6) (i := 8) (pc' := 17) rfl rfl rfl (by decide) (List.mem_of_getElem? (i := 134) (by decide +kernel)) (Nat.le_of_ble_eq_true rfl) (Nat.le_of_ble_eq_true rfl) (fun b2 => ?_)
  show AW G 1 3 48 mX0_init XT _ 2 42 17 [some (.ref a)] [.ref b2, .ref a] [(a, .inr (0, [.ref b1, .null, .null, .int (J 0)])), (b1, sA G 36 r0), (b2, sA G 6 r0)]
  refine x_putG (q := 0) (kf := 1) (i := 9) (pc' := 20) rfl rfl cd0 (by decide) rfl rfl (List.mem_of_getElem? (i := 288) (by decide +kernel)) rfl rfl rfl (Nat.le_of_ble_eq_true rfl) rfl rfl ?_
  show AW G 1 3 48 mX0_init XT _ 2 42 20 [some (.ref a)] [] [(a, .inr (0, [.ref b1, .ref b2, .null, .int (J 0)])), (b1, sA G 36 r0), (b2, sA G 6 r0)]
  refine x_aload_n (i := 10) (pc' := 21) rfl rfl rfl rfl ?_
  refine x_bipush (i := 11) (pc' := 23) rfl rfl (by decide) ?_
  refine x_newi (N := 6) (i := 12) (pc' := 25) rfl rfl rfl (by decide) (List.mem_of_getElem? (i := 134) (by decide +kernel)) (Nat.le_of_ble_eq_true rfl) (Nat.le_of_ble_eq_true rfl) (fun b3 => ?_)
  show AW G 1 3 48 mX0_init XT _ 3 48 25 [some (.ref a)] [.ref b3, .ref a] [(a, .inr (0, [.ref b1, .ref b2, .null, .int (J 0)])), (b1, sA G 36 r0), (b2, sA G 6 r0), (b3, sA G 6 r0)]
  refine x_putG (q := 0) (kf := 2) (i := 13) (pc' := 28) rfl rfl cd0 (by decide) rfl rfl (List.mem_of_getElem? (i := 289) (by decide +kernel)) rfl rfl rfl (Nat.le_of_ble_eq_true rfl) rfl rfl ?_
  show AW G 1 3 48 mX0_init XT _ 3 48 28 [some (.ref a)] [] [(a, .inr (0, [.ref b1, .ref b2, .ref b3, .int (J 0)])), (b1, sA G 36 r0), (b2, sA G 6 r0), (b3, sA G 6 r0)]
  refine x_aload_n (i := 14) (pc' := 29) rfl rfl rfl rfl ?_
  refine x_iconst (i := 15) (pc' := 30) rfl rfl ?_
  refine x_putf (q := 0) (i := 16) (pc' := 33) rfl rfl flX0_21 rfl (Nat.le_of_ble_eq_true rfl) rfl rfl ?_
  show AW G 1 3 48 mX0_init XT _ 3 48 33 [some (.ref a)] [] [(a, .inr (0, [.ref b1, .ref b2, .ref b3, .int (J 0)])), (b1, sA G 36 r0), (b2, sA G 6 r0), (b3, sA G 6 r0)]
  refine x_sub (ws' := [(a, .inr (0, [.ref b1, .ref b2, .ref b3, .int (J 0)])), (b1, sA G 36 r0), (b2, sA G 6 r0), (b3, sA G 6 r0)]) [0, 1, 2, 3] rfl rfl rfl ?_
  exact x_return (i := 17) rfl rfl (Nat.le_of_ble_eq_true rfl) (Nat.le_of_ble_eq_true rfl) ⟨rfl, b1, b2, b3, rfl⟩
set_option maxRecDepth 100000 in
theorem c_X1 {G : GG} {a : Nat} : AM G 1 2 32 mX1_init [.ref a] [(a, .inr (1, [.null, .null]))] (fun r w => r = none ∧ ∃ b1 b2 : Nat, w = [(a, .inr (1, [.ref b1, .ref b2])), (b1, sA G 16 r0), (b2, sA G 16 r0)]) := by
  refine AM.ofAW [some _] rfl (Nat.le_of_ble_eq_true rfl) (Or.inl rfl) dkX1_init ?_
  refine x_aload_n (i := 0) (pc' := 1) rfl rfl rfl rfl ?_
  refine x_oinit (i := 1) (pc' := 4) rfl rfl (by decide) (Nat.le_of_ble_eq_true rfl) (List.mem_of_getElem? (i := 307) (by decide +kernel)) (List.mem_of_getElem? (i := 107) (by decide +kernel)) (List.mem_of_getElem? (i := 108) (by decide +kernel)) ?_
  refine x_aload_n (i := 2) (pc' := 5) rfl rfl rfl rfl ?_
  refine x_bipush (i := 3) (pc' := 7) rfl rfl (by decide) ?_
  refine x_newi (N := 16) (i := 4) (pc' := 9) rfl rfl rfl (by decide) (List.mem_of_getElem? (i := 134) (by decide +kernel)) (Nat.le_of_ble_eq_true rfl) (Nat.le_of_ble_eq_true rfl) (fun b1 => ?_)
  show AW G 1 2 32 mX1_init XT _ 1 16 9 [some (.ref a)] [.ref b1, .ref a] [(a, .inr (1, [.null, .null])), (b1, sA G 16 r0)]
  refine x_putG (q := 0) (kf := 0) (i := 5) (pc' := 12) rfl rfl cd1 (by decide) rfl rfl (List.mem_of_getElem? (i := 308) (by decide +kernel)) rfl rfl rfl (Nat.le_of_ble_eq_true rfl) rfl rfl ?_
  show AW G 1 2 32 mX1_init XT _ 1 16 12 [some (.ref a)] [] [(a, .inr (1, [.ref b1, .null])), (b1, sA G 16 r0)]
  refine x_aload_n (i := 6) (pc' := 13) rfl rfl rfl rfl ?_
  refine x_bipush (i := 7) (pc' := 15) rfl rfl (by decide) ?_
  refine x_newi (N := 16) (i := 8) (pc' := 17) rfl rfl rfl (by decide) (List.mem_of_getElem? (i := 134) (by decide +kernel)) (Nat.le_of_ble_eq_true rfl) (Nat.le_of_ble_eq_true rfl) (fun b2 => ?_)
  show AW G 1 2 32 mX1_init XT _ 2 32 17 [some (.ref a)] [.ref b2, .ref a] [(a, .inr (1, [.ref b1, .null])), (b1, sA G 16 r0), (b2, sA G 16 r0)]
  refine x_putG (q := 0) (kf := 1) (i := 9) (pc' := 20) rfl rfl cd1 (by decide) rfl rfl (List.mem_of_getElem? (i := 309) (by decide +kernel)) rfl rfl rfl (Nat.le_of_ble_eq_true rfl) rfl rfl ?_
  show AW G 1 2 32 mX1_init XT _ 2 32 20 [some (.ref a)] [] [(a, .inr (1, [.ref b1, .ref b2])), (b1, sA G 16 r0), (b2, sA G 16 r0)]
  refine x_sub (ws' := [(a, .inr (1, [.ref b1, .ref b2])), (b1, sA G 16 r0), (b2, sA G 16 r0)]) [0, 1, 2] rfl rfl rfl ?_
  exact x_return (i := 10) rfl rfl (Nat.le_of_ble_eq_true rfl) (Nat.le_of_ble_eq_true rfl) ⟨rfl, b1, b2, rfl⟩
set_option maxRecDepth 100000 in
theorem c_X2 {G : GG} {a : Nat} : AM G 1 1 16 mX2_init [.ref a] [(a, .inr (2, [.null]))] (fun r w => r = none ∧ ∃ b1 : Nat, w = [(a, .inr (2, [.ref b1])), (b1, sA G 16 r0)]) := by
  refine AM.ofAW [some _] rfl (Nat.le_of_ble_eq_true rfl) (Or.inl rfl) dkX2_init ?_
  refine x_aload_n (i := 0) (pc' := 1) rfl rfl rfl rfl ?_
  refine x_oinit (i := 1) (pc' := 4) rfl rfl (by decide) (Nat.le_of_ble_eq_true rfl) (List.mem_of_getElem? (i := 320) (by decide +kernel)) (List.mem_of_getElem? (i := 107) (by decide +kernel)) (List.mem_of_getElem? (i := 108) (by decide +kernel)) ?_
  refine x_aload_n (i := 2) (pc' := 5) rfl rfl rfl rfl ?_
  refine x_bipush (i := 3) (pc' := 7) rfl rfl (by decide) ?_
  refine x_newi (N := 16) (i := 4) (pc' := 9) rfl rfl rfl (by decide) (List.mem_of_getElem? (i := 134) (by decide +kernel)) (Nat.le_of_ble_eq_true rfl) (Nat.le_of_ble_eq_true rfl) (fun b1 => ?_)
  show AW G 1 1 16 mX2_init XT _ 1 16 9 [some (.ref a)] [.ref b1, .ref a] [(a, .inr (2, [.null])), (b1, sA G 16 r0)]
  refine x_putG (q := 0) (kf := 0) (i := 5) (pc' := 12) rfl rfl cd2 (by decide) rfl rfl (List.mem_of_getElem? (i := 321) (by decide +kernel)) rfl rfl rfl (Nat.le_of_ble_eq_true rfl) rfl rfl ?_
  show AW G 1 1 16 mX2_init XT _ 1 16 12 [some (.ref a)] [] [(a, .inr (2, [.ref b1])), (b1, sA G 16 r0)]
  refine x_sub (ws' := [(a, .inr (2, [.ref b1])), (b1, sA G 16 r0)]) [0, 1] rfl rfl rfl ?_
  exact x_return (i := 6) rfl rfl (Nat.le_of_ble_eq_true rfl) (Nat.le_of_ble_eq_true rfl) ⟨rfl, b1, rfl⟩
