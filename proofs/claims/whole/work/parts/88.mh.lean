set_option maxRecDepth 100000 in
theorem law_loop {G : GG} {nm : String} {b Ln : Nat} {xs : Nat → Int32} {k n : Nat} (hL : Ln ≤ 3072) (hk : k ≤ 600000) (hn : n ≤ 7302250) : ∀ (c : Nat) (t : Int) (m : Mem), t + c = 513 → 0 ≤ t → INV t m → AW G 100 600000 7302250 (ML nm) (XL b Ln xs) FW k n 18 [some (.ref b), some (.ref (G.2.2.2 0)), some (.ref (G.2.2.2 76)), some (.int (J (6 * t)))] [] (wd G m)
  | 0, t, m, h1, t0, hI => by
    have := hI.2.2.2.2.2.2.1
    omega
  | c + 1, t, m, h1, t0, hI => by
    have h512 := hI.2.2.2.2.2.2.1
    refine x_iload_n (i := 10) (pc' := 19) rfl rfl rfl rfl ?_
    refine x_aload_n (i := 11) (pc' := 20) rfl rfl rfl rfl ?_
    refine x_slen (i := 12) (pc' := 21) rfl rfl ?_
    refine x_bipush (i := 13) (pc' := 23) rfl rfl (by decide) ?_
    refine x_isub (i := 14) (pc' := 24) rfl rfl ?_
    refine x_icmpgt (i := 15) (pc' := 27) (tgt := 1109) rfl rfl (by decide) ⟨by omega, by omega⟩ ⟨by omega, by omega⟩ (fun hc => ?_) (fun hc => ?_)
    · refine x_iconst (i := 759) (pc' := 1110) rfl rfl ?_
      exact x_lawret (i := 760) hk hn rfl
    · have ht : 6 * t + 6 ≤ Ln := by omega
      have kk : ∀ m' : Mem, INV (t + 1) m' → AW G 100 600000 7302250 (ML nm) (XL b Ln xs) FW k n 1103 [some (.ref b), some (.ref (G.2.2.2 0)), some (.ref (G.2.2.2 76)), some (.int (J (6 * t)))] [] (wd G m') := fun m' hI' => by
        refine x_iinc (L' := [some (.ref b), some (.ref (G.2.2.2 0)), some (.ref (G.2.2.2 76)), some (.int (J (6 * t + 6)))]) (i := 757) (pc' := 1106) rfl rfl rfl rfl (Nat.le_of_ble_eq_true rfl) rfl ?_
        refine x_goto (i := 758) (pc' := 18) rfl (by decide) ?_
        have ih := law_loop (G := G) (nm := nm) (b := b) (Ln := Ln) (xs := xs) (k := k) (n := n) hL hk hn c (t + 1) m' (by omega) (by omega) hI'
        rw [show 6 * (t + 1) = 6 * t + 6 by omega] at ih
        exact ih
      refine x_aload_n (i := 16) (pc' := 28) rfl rfl rfl rfl ?_
      refine x_iload_n (i := 17) (pc' := 29) rfl rfl rfl rfl ?_
      refine x_sld (i := 18) (pc' := 30) rfl rfl hL (by omega) (by omega) ?_
      refine x_bipush (i := 19) (pc' := 32) rfl rfl (by decide) ?_
      refine x_riand (i := 20) (pc' := 33) rfl rfl ?_
      generalize J (xs (6 * t).toNat).toInt = v
      have hb : 0 ≤ (v &&& J 31).toInt ∧ (v &&& J 31).toInt ≤ 31 := and31 v
      have e1 := J_of (v &&& J 31)
      rw [e1]
      generalize (v &&& J 31).toInt = z at hb
      rcases (by omega : z = 0 ∨ z = 1 ∨ z = 2 ∨ z = 3 ∨ z = 4 ∨ z = 5 ∨ z = 6 ∨ z = 7 ∨ z = 8 ∨ z = 9 ∨ z = 10 ∨ z = 11 ∨ z = 12 ∨ z = 13 ∨ z = 14 ∨ z = 15 ∨ z = 16 ∨ z = 17 ∨ z = 18 ∨ z = 19 ∨ z = 20 ∨ z = 21 ∨ z = 22 ∨ z = 23 ∨ z = 24 ∨ z = 25 ∨ z = 26 ∨ z = 27 ∨ z = 28 ∨ z = 29 ∨ z = 30 ∨ z = 31) with rfl | rfl | rfl | rfl | rfl | rfl | rfl | rfl | rfl | rfl | rfl | rfl | rfl | rfl | rfl | rfl | rfl | rfl | rfl | rfl | rfl | rfl | rfl | rfl | rfl | rfl | rfl | rfl | rfl | rfl | rfl | rfl
      · exact x_tableIn (i := 21) (v := 0) (off := 143) (tgt := 176) rfl rfl (by decide) (by decide) (by decide) rfl (by decide) (lc_0 hL hk hn t0 ht hI kk)
      · exact x_tableIn (i := 21) (v := 1) (off := 206) (tgt := 239) rfl rfl (by decide) (by decide) (by decide) rfl (by decide) (lc_1 hL hk hn t0 ht hI kk)
      · exact x_tableIn (i := 21) (v := 2) (off := 249) (tgt := 282) rfl rfl (by decide) (by decide) (by decide) rfl (by decide) (lc_2 hL hk hn t0 ht hI kk)
      · exact x_tableIn (i := 21) (v := 3) (off := 272) (tgt := 305) rfl rfl (by decide) (by decide) (by decide) rfl (by decide) (lc_3 hL hk hn t0 ht hI kk)
      · exact x_tableIn (i := 21) (v := 4) (off := 305) (tgt := 338) rfl rfl (by decide) (by decide) (by decide) rfl (by decide) (lc_4 hL hk hn t0 ht hI kk)
      · exact x_tableIn (i := 21) (v := 5) (off := 338) (tgt := 371) rfl rfl (by decide) (by decide) (by decide) rfl (by decide) (lc_5 hL hk hn t0 ht hI kk)
      · exact x_tableIn (i := 21) (v := 6) (off := 371) (tgt := 404) rfl rfl (by decide) (by decide) (by decide) rfl (by decide) (lc_6 hL hk hn t0 ht hI kk)
      · exact x_tableIn (i := 21) (v := 7) (off := 414) (tgt := 447) rfl rfl (by decide) (by decide) (by decide) rfl (by decide) (lc_7 hL hk hn t0 ht hI kk)
      · exact x_tableIn (i := 21) (v := 8) (off := 467) (tgt := 500) rfl rfl (by decide) (by decide) (by decide) rfl (by decide) (lc_8 hL hk hn t0 ht hI kk)
      · exact x_tableIn (i := 21) (v := 9) (off := 500) (tgt := 533) rfl rfl (by decide) (by decide) (by decide) rfl (by decide) (lc_9 hL hk hn t0 ht hI kk)
      · exact x_tableIn (i := 21) (v := 10) (off := 553) (tgt := 586) rfl rfl (by decide) (by decide) (by decide) rfl (by decide) (lc_10 hL hk hn t0 ht hI kk)
      · exact x_tableIn (i := 21) (v := 11) (off := 576) (tgt := 609) rfl rfl (by decide) (by decide) (by decide) rfl (by decide) (lc_11 hL hk hn t0 ht hI kk)
      · exact x_tableIn (i := 21) (v := 12) (off := 609) (tgt := 642) rfl rfl (by decide) (by decide) (by decide) rfl (by decide) (lc_12 hL hk hn t0 ht hI kk)
      · exact x_tableIn (i := 21) (v := 13) (off := 632) (tgt := 665) rfl rfl (by decide) (by decide) (by decide) rfl (by decide) (lc_13 hL hk hn t0 ht hI kk)
      · exact x_tableIn (i := 21) (v := 14) (off := 655) (tgt := 688) rfl rfl (by decide) (by decide) (by decide) rfl (by decide) (lc_14 hL hk hn t0 ht hI kk)
      · exact x_tableIn (i := 21) (v := 15) (off := 678) (tgt := 711) rfl rfl (by decide) (by decide) (by decide) rfl (by decide) (lc_15 hL hk hn t0 ht hI kk)
      · exact x_tableIn (i := 21) (v := 16) (off := 721) (tgt := 754) rfl rfl (by decide) (by decide) (by decide) rfl (by decide) (lc_16 hL hk hn t0 ht hI kk)
      · exact x_tableIn (i := 21) (v := 17) (off := 744) (tgt := 777) rfl rfl (by decide) (by decide) (by decide) rfl (by decide) (lc_17 hL hk hn t0 ht hI kk)
      · exact x_tableIn (i := 21) (v := 18) (off := 777) (tgt := 810) rfl rfl (by decide) (by decide) (by decide) rfl (by decide) (lc_18 hL hk hn t0 ht hI kk)
      · exact x_tableIn (i := 21) (v := 19) (off := 790) (tgt := 823) rfl rfl (by decide) (by decide) (by decide) rfl (by decide) (lc_19 hL hk hn t0 ht hI kk)
      · exact x_tableIn (i := 21) (v := 20) (off := 823) (tgt := 856) rfl rfl (by decide) (by decide) (by decide) rfl (by decide) (lc_20 hL hk hn t0 ht hI kk)
      · exact x_tableIn (i := 21) (v := 21) (off := 856) (tgt := 889) rfl rfl (by decide) (by decide) (by decide) rfl (by decide) (lc_21 hL hk hn t0 ht hI kk)
      · exact x_tableIn (i := 21) (v := 22) (off := 879) (tgt := 912) rfl rfl (by decide) (by decide) (by decide) rfl (by decide) (lc_22 hL hk hn t0 ht hI kk)
      · exact x_tableIn (i := 21) (v := 23) (off := 912) (tgt := 945) rfl rfl (by decide) (by decide) (by decide) rfl (by decide) (lc_23 hL hk hn t0 ht hI kk)
      · exact x_tableIn (i := 21) (v := 24) (off := 935) (tgt := 968) rfl rfl (by decide) (by decide) (by decide) rfl (by decide) (lc_24 hL hk hn t0 ht hI kk)
      · exact x_tableIn (i := 21) (v := 25) (off := 958) (tgt := 991) rfl rfl (by decide) (by decide) (by decide) rfl (by decide) (lc_25 hL hk hn t0 ht hI kk)
      · exact x_tableIn (i := 21) (v := 26) (off := 971) (tgt := 1004) rfl rfl (by decide) (by decide) (by decide) rfl (by decide) (lc_26 hL hk hn t0 ht hI kk)
      · exact x_tableIn (i := 21) (v := 27) (off := 994) (tgt := 1027) rfl rfl (by decide) (by decide) (by decide) rfl (by decide) (lc_27 hL hk hn t0 ht hI kk)
      · exact x_tableIn (i := 21) (v := 28) (off := 1007) (tgt := 1040) rfl rfl (by decide) (by decide) (by decide) rfl (by decide) (lc_28 hL hk hn t0 ht hI kk)
      · exact x_tableIn (i := 21) (v := 29) (off := 1020) (tgt := 1053) rfl rfl (by decide) (by decide) (by decide) rfl (by decide) (lc_29 hL hk hn t0 ht hI kk)
      · exact x_tableIn (i := 21) (v := 30) (off := 1033) (tgt := 1066) rfl rfl (by decide) (by decide) (by decide) rfl (by decide) (lc_30 hL hk hn t0 ht hI kk)
      · exact x_tableIn (i := 21) (v := 31) (off := 1056) (tgt := 1089) rfl rfl (by decide) (by decide) (by decide) rfl (by decide) (lc_31 hL hk hn t0 ht hI kk)
