set_option maxRecDepth 100000 in
theorem lc_0 {G : GG} {nm : String} {b Ln : Nat} {xs : Nat → Int32} {k n : Nat} {m : Mem} {t : Int} (hL : Ln ≤ 3072) (hk : k ≤ 600000) (hn : n ≤ 7302250) (t0 : 0 ≤ t) (ht : 6 * t + 6 ≤ Ln) (hI : INV t m) (kk : ∀ m' : Mem, INV (t + 1) m' → AW G 100 600000 7302250 (ML nm) (XL b Ln xs) FW k n 1103 [some (.ref b), some (.ref (G.2.2.2 0)), some (.ref (G.2.2.2 76)), some (.int (J (6 * t)))] [] (wd G m')) : AW G 100 600000 7302250 (ML nm) (XL b Ln xs) FW k n 176 [some (.ref b), some (.ref (G.2.2.2 0)), some (.ref (G.2.2.2 76)), some (.int (J (6 * t)))] [] (wd G m) := by
  have he : t < 512 := by omega
  refine x_aload_n (i := 22) (pc' := 177) rfl rfl rfl rfl ?_
  refine x_aload_n (i := 23) (pc' := 178) rfl rfl rfl rfl ?_
  refine x_iload_n (i := 24) (pc' := 179) rfl rfl rfl rfl ?_
  refine x_iconst (i := 25) (pc' := 180) rfl rfl ?_
  refine x_iadd (i := 26) (pc' := 181) rfl rfl ?_
  refine x_sld (i := 27) (pc' := 182) rfl rfl hL (by omega) (by omega) ?_
  refine x_aload_n (i := 28) (pc' := 183) rfl rfl rfl rfl ?_
  refine x_iload_n (i := 29) (pc' := 184) rfl rfl rfl rfl ?_
  refine x_iconst (i := 30) (pc' := 185) rfl rfl ?_
  refine x_iadd (i := 31) (pc' := 186) rfl rfl ?_
  refine x_sld (i := 32) (pc' := 187) rfl rfl hL (by omega) (by omega) ?_
  refine x_aload_n (i := 33) (pc' := 188) rfl rfl rfl rfl ?_
  refine x_iload_n (i := 34) (pc' := 189) rfl rfl rfl rfl ?_
  refine x_iconst (i := 35) (pc' := 190) rfl rfl ?_
  refine x_iadd (i := 36) (pc' := 191) rfl rfl ?_
  refine x_sld (i := 37) (pc' := 192) rfl rfl hL (by omega) (by omega) ?_
  refine x_aload_n (i := 38) (pc' := 193) rfl rfl rfl rfl ?_
  refine x_iload_n (i := 39) (pc' := 194) rfl rfl rfl rfl ?_
  refine x_iconst (i := 40) (pc' := 195) rfl rfl ?_
  refine x_iadd (i := 41) (pc' := 196) rfl rfl ?_
  refine x_sld (i := 42) (pc' := 197) rfl rfl hL (by omega) (by omega) ?_
  refine x_aload_n (i := 43) (pc' := 198) rfl rfl rfl rfl ?_
  refine x_iload_n (i := 44) (pc' := 199) rfl rfl rfl rfl ?_
  refine x_iconst (i := 45) (pc' := 200) rfl rfl ?_
  refine x_iadd (i := 46) (pc' := 201) rfl rfl ?_
  refine x_sld (i := 47) (pc' := 202) rfl rfl hL (by omega) (by omega) ?_
  refine l_call (q := 0) (i := 48) (pc' := 205) (av := [_, _, _, _, _]) (rest := []) rfl rfl (by decide) lL_13 (sh0 G) rfl rfl rfl rfl rfl (Nat.le_of_ble_eq_true rfl) hk hn (st_sign hI he (J_rg _) (J_rg _) (J_rg _) (J_rg _) (J_rg _)) (fun r m1 h1 => ?_)
  refine x_aload_n (i := 49) (pc' := 206) rfl rfl rfl rfl ?_
  refine x_aload_n (i := 50) (pc' := 207) rfl rfl rfl rfl ?_
  refine x_iload_n (i := 51) (pc' := 208) rfl rfl rfl rfl ?_
  refine x_iconst (i := 52) (pc' := 209) rfl rfl ?_
  refine x_iadd (i := 53) (pc' := 210) rfl rfl ?_
  refine x_sld (i := 54) (pc' := 211) rfl rfl hL (by omega) (by omega) ?_
  refine x_aload_n (i := 55) (pc' := 212) rfl rfl rfl rfl ?_
  refine x_iload_n (i := 56) (pc' := 213) rfl rfl rfl rfl ?_
  refine x_iconst (i := 57) (pc' := 214) rfl rfl ?_
  refine x_iadd (i := 58) (pc' := 215) rfl rfl ?_
  refine x_sld (i := 59) (pc' := 216) rfl rfl hL (by omega) (by omega) ?_
  refine x_aload_n (i := 60) (pc' := 217) rfl rfl rfl rfl ?_
  refine x_iload_n (i := 61) (pc' := 218) rfl rfl rfl rfl ?_
  refine x_iconst (i := 62) (pc' := 219) rfl rfl ?_
  refine x_iadd (i := 63) (pc' := 220) rfl rfl ?_
  refine x_sld (i := 64) (pc' := 221) rfl rfl hL (by omega) (by omega) ?_
  refine x_aload_n (i := 65) (pc' := 222) rfl rfl rfl rfl ?_
  refine x_iload_n (i := 66) (pc' := 223) rfl rfl rfl rfl ?_
  refine x_iconst (i := 67) (pc' := 224) rfl rfl ?_
  refine x_iadd (i := 68) (pc' := 225) rfl rfl ?_
  refine x_sld (i := 69) (pc' := 226) rfl rfl hL (by omega) (by omega) ?_
  refine x_aload_n (i := 70) (pc' := 227) rfl rfl rfl rfl ?_
  refine x_iload_n (i := 71) (pc' := 228) rfl rfl rfl rfl ?_
  refine x_iconst (i := 72) (pc' := 229) rfl rfl ?_
  refine x_iadd (i := 73) (pc' := 230) rfl rfl ?_
  refine x_sld (i := 74) (pc' := 231) rfl rfl hL (by omega) (by omega) ?_
  refine l_call (q := 76) (i := 75) (pc' := 234) (av := [_, _, _, _, _]) (rest := psh r []) rfl rfl (by decide) lL_17 (sh76 G) rfl rfl rfl rfl rfl (psh_room r) hk hn h1 (fun r2 m2 h2 => ?_)
  obtain ⟨rfl, ⟨z, rfl⟩, h3⟩ := h2
  dsimp only [psh]
  exact x_same (i := 76) rfl (by decide) (kk m2 h3)
set_option maxRecDepth 100000 in
theorem lc_1 {G : GG} {nm : String} {b Ln : Nat} {xs : Nat → Int32} {k n : Nat} {m : Mem} {t : Int} (hL : Ln ≤ 3072) (hk : k ≤ 600000) (hn : n ≤ 7302250) (t0 : 0 ≤ t) (ht : 6 * t + 6 ≤ Ln) (hI : INV t m) (kk : ∀ m' : Mem, INV (t + 1) m' → AW G 100 600000 7302250 (ML nm) (XL b Ln xs) FW k n 1103 [some (.ref b), some (.ref (G.2.2.2 0)), some (.ref (G.2.2.2 76)), some (.int (J (6 * t)))] [] (wd G m')) : AW G 100 600000 7302250 (ML nm) (XL b Ln xs) FW k n 239 [some (.ref b), some (.ref (G.2.2.2 0)), some (.ref (G.2.2.2 76)), some (.int (J (6 * t)))] [] (wd G m) := by
  have he : t < 512 := by omega
  refine x_aload_n (i := 79) (pc' := 240) rfl rfl rfl rfl ?_
  refine x_aload_n (i := 80) (pc' := 241) rfl rfl rfl rfl ?_
  refine x_iload_n (i := 81) (pc' := 242) rfl rfl rfl rfl ?_
  refine x_iconst (i := 82) (pc' := 243) rfl rfl ?_
  refine x_iadd (i := 83) (pc' := 244) rfl rfl ?_
  refine x_sld (i := 84) (pc' := 245) rfl rfl hL (by omega) (by omega) ?_
  refine x_aload_n (i := 85) (pc' := 246) rfl rfl rfl rfl ?_
  refine x_iload_n (i := 86) (pc' := 247) rfl rfl rfl rfl ?_
  refine x_iconst (i := 87) (pc' := 248) rfl rfl ?_
  refine x_iadd (i := 88) (pc' := 249) rfl rfl ?_
  refine x_sld (i := 89) (pc' := 250) rfl rfl hL (by omega) (by omega) ?_
  refine x_aload_n (i := 90) (pc' := 251) rfl rfl rfl rfl ?_
  refine x_iload_n (i := 91) (pc' := 252) rfl rfl rfl rfl ?_
  refine x_iconst (i := 92) (pc' := 253) rfl rfl ?_
  refine x_iadd (i := 93) (pc' := 254) rfl rfl ?_
  refine x_sld (i := 94) (pc' := 255) rfl rfl hL (by omega) (by omega) ?_
  refine l_call (q := 0) (i := 95) (pc' := 258) (av := [_, _, _]) (rest := []) rfl rfl (by decide) lL_18 (sh0 G) rfl rfl rfl rfl rfl (Nat.le_of_ble_eq_true rfl) hk hn (st_becomes hI he (J_rg _) (J_rg _) (J_rg _)) (fun r m1 h1 => ?_)
  refine x_aload_n (i := 96) (pc' := 259) rfl rfl rfl rfl ?_
  refine x_aload_n (i := 97) (pc' := 260) rfl rfl rfl rfl ?_
  refine x_iload_n (i := 98) (pc' := 261) rfl rfl rfl rfl ?_
  refine x_iconst (i := 99) (pc' := 262) rfl rfl ?_
  refine x_iadd (i := 100) (pc' := 263) rfl rfl ?_
  refine x_sld (i := 101) (pc' := 264) rfl rfl hL (by omega) (by omega) ?_
  refine x_aload_n (i := 102) (pc' := 265) rfl rfl rfl rfl ?_
  refine x_iload_n (i := 103) (pc' := 266) rfl rfl rfl rfl ?_
  refine x_iconst (i := 104) (pc' := 267) rfl rfl ?_
  refine x_iadd (i := 105) (pc' := 268) rfl rfl ?_
  refine x_sld (i := 106) (pc' := 269) rfl rfl hL (by omega) (by omega) ?_
  refine x_aload_n (i := 107) (pc' := 270) rfl rfl rfl rfl ?_
  refine x_iload_n (i := 108) (pc' := 271) rfl rfl rfl rfl ?_
  refine x_iconst (i := 109) (pc' := 272) rfl rfl ?_
  refine x_iadd (i := 110) (pc' := 273) rfl rfl ?_
  refine x_sld (i := 111) (pc' := 274) rfl rfl hL (by omega) (by omega) ?_
  refine l_call (q := 76) (i := 112) (pc' := 277) (av := [_, _, _]) (rest := psh r []) rfl rfl (by decide) lL_22 (sh76 G) rfl rfl rfl rfl rfl (psh_room r) hk hn h1 (fun r2 m2 h2 => ?_)
  obtain ⟨rfl, ⟨z, rfl⟩, h3⟩ := h2
  dsimp only [psh]
  exact x_same (i := 113) rfl (by decide) (kk m2 h3)
set_option maxRecDepth 100000 in
theorem lc_2 {G : GG} {nm : String} {b Ln : Nat} {xs : Nat → Int32} {k n : Nat} {m : Mem} {t : Int} (hL : Ln ≤ 3072) (hk : k ≤ 600000) (hn : n ≤ 7302250) (t0 : 0 ≤ t) (ht : 6 * t + 6 ≤ Ln) (hI : INV t m) (kk : ∀ m' : Mem, INV (t + 1) m' → AW G 100 600000 7302250 (ML nm) (XL b Ln xs) FW k n 1103 [some (.ref b), some (.ref (G.2.2.2 0)), some (.ref (G.2.2.2 76)), some (.int (J (6 * t)))] [] (wd G m')) : AW G 100 600000 7302250 (ML nm) (XL b Ln xs) FW k n 282 [some (.ref b), some (.ref (G.2.2.2 0)), some (.ref (G.2.2.2 76)), some (.int (J (6 * t)))] [] (wd G m) := by
  have he : t < 512 := by omega
  refine x_aload_n (i := 116) (pc' := 283) rfl rfl rfl rfl ?_
  refine x_aload_n (i := 117) (pc' := 284) rfl rfl rfl rfl ?_
  refine x_iload_n (i := 118) (pc' := 285) rfl rfl rfl rfl ?_
  refine x_iconst (i := 119) (pc' := 286) rfl rfl ?_
  refine x_iadd (i := 120) (pc' := 287) rfl rfl ?_
  refine x_sld (i := 121) (pc' := 288) rfl rfl hL (by omega) (by omega) ?_
  refine l_call (q := 0) (i := 122) (pc' := 291) (av := [_]) (rest := []) rfl rfl (by decide) lL_23 (sh0 G) rfl rfl rfl rfl rfl (Nat.le_of_ble_eq_true rfl) hk hn (st_drops hI he (J_rg _)) (fun r m1 h1 => ?_)
  refine x_aload_n (i := 123) (pc' := 292) rfl rfl rfl rfl ?_
  refine x_aload_n (i := 124) (pc' := 293) rfl rfl rfl rfl ?_
  refine x_iload_n (i := 125) (pc' := 294) rfl rfl rfl rfl ?_
  refine x_iconst (i := 126) (pc' := 295) rfl rfl ?_
  refine x_iadd (i := 127) (pc' := 296) rfl rfl ?_
  refine x_sld (i := 128) (pc' := 297) rfl rfl hL (by omega) (by omega) ?_
  refine l_call (q := 76) (i := 129) (pc' := 300) (av := [_]) (rest := psh r []) rfl rfl (by decide) lL_27 (sh76 G) rfl rfl rfl rfl rfl (psh_room r) hk hn h1 (fun r2 m2 h2 => ?_)
  obtain ⟨rfl, ⟨z, rfl⟩, h3⟩ := h2
  dsimp only [psh]
  exact x_same (i := 130) rfl (by decide) (kk m2 h3)
set_option maxRecDepth 100000 in
theorem lc_3 {G : GG} {nm : String} {b Ln : Nat} {xs : Nat → Int32} {k n : Nat} {m : Mem} {t : Int} (hL : Ln ≤ 3072) (hk : k ≤ 600000) (hn : n ≤ 7302250) (t0 : 0 ≤ t) (ht : 6 * t + 6 ≤ Ln) (hI : INV t m) (kk : ∀ m' : Mem, INV (t + 1) m' → AW G 100 600000 7302250 (ML nm) (XL b Ln xs) FW k n 1103 [some (.ref b), some (.ref (G.2.2.2 0)), some (.ref (G.2.2.2 76)), some (.int (J (6 * t)))] [] (wd G m')) : AW G 100 600000 7302250 (ML nm) (XL b Ln xs) FW k n 305 [some (.ref b), some (.ref (G.2.2.2 0)), some (.ref (G.2.2.2 76)), some (.int (J (6 * t)))] [] (wd G m) := by
  have he : t < 512 := by omega
  refine x_aload_n (i := 133) (pc' := 306) rfl rfl rfl rfl ?_
  refine x_aload_n (i := 134) (pc' := 307) rfl rfl rfl rfl ?_
  refine x_iload_n (i := 135) (pc' := 308) rfl rfl rfl rfl ?_
  refine x_iconst (i := 136) (pc' := 309) rfl rfl ?_
  refine x_iadd (i := 137) (pc' := 310) rfl rfl ?_
  refine x_sld (i := 138) (pc' := 311) rfl rfl hL (by omega) (by omega) ?_
  refine x_aload_n (i := 139) (pc' := 312) rfl rfl rfl rfl ?_
  refine x_iload_n (i := 140) (pc' := 313) rfl rfl rfl rfl ?_
  refine x_iconst (i := 141) (pc' := 314) rfl rfl ?_
  refine x_iadd (i := 142) (pc' := 315) rfl rfl ?_
  refine x_sld (i := 143) (pc' := 316) rfl rfl hL (by omega) (by omega) ?_
  refine l_call (q := 0) (i := 144) (pc' := 319) (av := [_, _]) (rest := []) rfl rfl (by decide) lL_28 (sh0 G) rfl rfl rfl rfl rfl (Nat.le_of_ble_eq_true rfl) hk hn (st_weight hI he (J_rg _) (J_rg _)) (fun r m1 h1 => ?_)
  refine x_aload_n (i := 145) (pc' := 320) rfl rfl rfl rfl ?_
  refine x_aload_n (i := 146) (pc' := 321) rfl rfl rfl rfl ?_
  refine x_iload_n (i := 147) (pc' := 322) rfl rfl rfl rfl ?_
  refine x_iconst (i := 148) (pc' := 323) rfl rfl ?_
  refine x_iadd (i := 149) (pc' := 324) rfl rfl ?_
  refine x_sld (i := 150) (pc' := 325) rfl rfl hL (by omega) (by omega) ?_
  refine x_aload_n (i := 151) (pc' := 326) rfl rfl rfl rfl ?_
  refine x_iload_n (i := 152) (pc' := 327) rfl rfl rfl rfl ?_
  refine x_iconst (i := 153) (pc' := 328) rfl rfl ?_
  refine x_iadd (i := 154) (pc' := 329) rfl rfl ?_
  refine x_sld (i := 155) (pc' := 330) rfl rfl hL (by omega) (by omega) ?_
  refine l_call (q := 76) (i := 156) (pc' := 333) (av := [_, _]) (rest := psh r []) rfl rfl (by decide) lL_32 (sh76 G) rfl rfl rfl rfl rfl (psh_room r) hk hn h1 (fun r2 m2 h2 => ?_)
  obtain ⟨rfl, ⟨z, rfl⟩, h3⟩ := h2
  dsimp only [psh]
  exact x_same (i := 157) rfl (by decide) (kk m2 h3)
set_option maxRecDepth 100000 in
theorem lc_4 {G : GG} {nm : String} {b Ln : Nat} {xs : Nat → Int32} {k n : Nat} {m : Mem} {t : Int} (hL : Ln ≤ 3072) (hk : k ≤ 600000) (hn : n ≤ 7302250) (t0 : 0 ≤ t) (ht : 6 * t + 6 ≤ Ln) (hI : INV t m) (kk : ∀ m' : Mem, INV (t + 1) m' → AW G 100 600000 7302250 (ML nm) (XL b Ln xs) FW k n 1103 [some (.ref b), some (.ref (G.2.2.2 0)), some (.ref (G.2.2.2 76)), some (.int (J (6 * t)))] [] (wd G m')) : AW G 100 600000 7302250 (ML nm) (XL b Ln xs) FW k n 338 [some (.ref b), some (.ref (G.2.2.2 0)), some (.ref (G.2.2.2 76)), some (.int (J (6 * t)))] [] (wd G m) := by
  have he : t < 512 := by omega
  refine x_aload_n (i := 160) (pc' := 339) rfl rfl rfl rfl ?_
  refine x_aload_n (i := 161) (pc' := 340) rfl rfl rfl rfl ?_
  refine x_iload_n (i := 162) (pc' := 341) rfl rfl rfl rfl ?_
  refine x_iconst (i := 163) (pc' := 342) rfl rfl ?_
  refine x_iadd (i := 164) (pc' := 343) rfl rfl ?_
  refine x_sld (i := 165) (pc' := 344) rfl rfl hL (by omega) (by omega) ?_
  refine x_aload_n (i := 166) (pc' := 345) rfl rfl rfl rfl ?_
  refine x_iload_n (i := 167) (pc' := 346) rfl rfl rfl rfl ?_
  refine x_iconst (i := 168) (pc' := 347) rfl rfl ?_
  refine x_iadd (i := 169) (pc' := 348) rfl rfl ?_
  refine x_sld (i := 170) (pc' := 349) rfl rfl hL (by omega) (by omega) ?_
  refine l_call (q := 0) (i := 171) (pc' := 352) (av := [_, _]) (rest := []) rfl rfl (by decide) lL_33 (sh0 G) rfl rfl rfl rfl rfl (Nat.le_of_ble_eq_true rfl) hk hn (st_draws hI he (J_rg _) (J_rg _)) (fun r m1 h1 => ?_)
  refine x_aload_n (i := 172) (pc' := 353) rfl rfl rfl rfl ?_
  refine x_aload_n (i := 173) (pc' := 354) rfl rfl rfl rfl ?_
  refine x_iload_n (i := 174) (pc' := 355) rfl rfl rfl rfl ?_
  refine x_iconst (i := 175) (pc' := 356) rfl rfl ?_
  refine x_iadd (i := 176) (pc' := 357) rfl rfl ?_
  refine x_sld (i := 177) (pc' := 358) rfl rfl hL (by omega) (by omega) ?_
  refine x_aload_n (i := 178) (pc' := 359) rfl rfl rfl rfl ?_
  refine x_iload_n (i := 179) (pc' := 360) rfl rfl rfl rfl ?_
  refine x_iconst (i := 180) (pc' := 361) rfl rfl ?_
  refine x_iadd (i := 181) (pc' := 362) rfl rfl ?_
  refine x_sld (i := 182) (pc' := 363) rfl rfl hL (by omega) (by omega) ?_
  refine l_call (q := 76) (i := 183) (pc' := 366) (av := [_, _]) (rest := psh r []) rfl rfl (by decide) lL_36 (sh76 G) rfl rfl rfl rfl rfl (psh_room r) hk hn h1 (fun r2 m2 h2 => ?_)
  obtain ⟨rfl, ⟨z, rfl⟩, h3⟩ := h2
  dsimp only [psh]
  exact x_same (i := 184) rfl (by decide) (kk m2 h3)
set_option maxRecDepth 100000 in
theorem lc_5 {G : GG} {nm : String} {b Ln : Nat} {xs : Nat → Int32} {k n : Nat} {m : Mem} {t : Int} (hL : Ln ≤ 3072) (hk : k ≤ 600000) (hn : n ≤ 7302250) (t0 : 0 ≤ t) (ht : 6 * t + 6 ≤ Ln) (hI : INV t m) (kk : ∀ m' : Mem, INV (t + 1) m' → AW G 100 600000 7302250 (ML nm) (XL b Ln xs) FW k n 1103 [some (.ref b), some (.ref (G.2.2.2 0)), some (.ref (G.2.2.2 76)), some (.int (J (6 * t)))] [] (wd G m')) : AW G 100 600000 7302250 (ML nm) (XL b Ln xs) FW k n 371 [some (.ref b), some (.ref (G.2.2.2 0)), some (.ref (G.2.2.2 76)), some (.int (J (6 * t)))] [] (wd G m) := by
  have he : t < 512 := by omega
  refine x_aload_n (i := 187) (pc' := 372) rfl rfl rfl rfl ?_
  refine x_aload_n (i := 188) (pc' := 373) rfl rfl rfl rfl ?_
  refine x_iload_n (i := 189) (pc' := 374) rfl rfl rfl rfl ?_
  refine x_iconst (i := 190) (pc' := 375) rfl rfl ?_
  refine x_iadd (i := 191) (pc' := 376) rfl rfl ?_
  refine x_sld (i := 192) (pc' := 377) rfl rfl hL (by omega) (by omega) ?_
  refine x_aload_n (i := 193) (pc' := 378) rfl rfl rfl rfl ?_
  refine x_iload_n (i := 194) (pc' := 379) rfl rfl rfl rfl ?_
  refine x_iconst (i := 195) (pc' := 380) rfl rfl ?_
  refine x_iadd (i := 196) (pc' := 381) rfl rfl ?_
  refine x_sld (i := 197) (pc' := 382) rfl rfl hL (by omega) (by omega) ?_
  refine l_call (q := 0) (i := 198) (pc' := 385) (av := [_, _]) (rest := []) rfl rfl (by decide) lL_37 (sh0 G) rfl rfl rfl rfl rfl (Nat.le_of_ble_eq_true rfl) hk hn (st_of hI he (J_rg _) (J_rg _)) (fun r m1 h1 => ?_)
  refine x_aload_n (i := 199) (pc' := 386) rfl rfl rfl rfl ?_
  refine x_aload_n (i := 200) (pc' := 387) rfl rfl rfl rfl ?_
  refine x_iload_n (i := 201) (pc' := 388) rfl rfl rfl rfl ?_
  refine x_iconst (i := 202) (pc' := 389) rfl rfl ?_
  refine x_iadd (i := 203) (pc' := 390) rfl rfl ?_
  refine x_sld (i := 204) (pc' := 391) rfl rfl hL (by omega) (by omega) ?_
  refine x_aload_n (i := 205) (pc' := 392) rfl rfl rfl rfl ?_
  refine x_iload_n (i := 206) (pc' := 393) rfl rfl rfl rfl ?_
  refine x_iconst (i := 207) (pc' := 394) rfl rfl ?_
  refine x_iadd (i := 208) (pc' := 395) rfl rfl ?_
  refine x_sld (i := 209) (pc' := 396) rfl rfl hL (by omega) (by omega) ?_
  refine l_call (q := 76) (i := 210) (pc' := 399) (av := [_, _]) (rest := psh r []) rfl rfl (by decide) lL_40 (sh76 G) rfl rfl rfl rfl rfl (psh_room r) hk hn h1 (fun r2 m2 h2 => ?_)
  obtain ⟨rfl, ⟨z, rfl⟩, h3⟩ := h2
  dsimp only [psh]
  exact x_same (i := 211) rfl (by decide) (kk m2 h3)
set_option maxRecDepth 100000 in
theorem lc_6 {G : GG} {nm : String} {b Ln : Nat} {xs : Nat → Int32} {k n : Nat} {m : Mem} {t : Int} (hL : Ln ≤ 3072) (hk : k ≤ 600000) (hn : n ≤ 7302250) (t0 : 0 ≤ t) (ht : 6 * t + 6 ≤ Ln) (hI : INV t m) (kk : ∀ m' : Mem, INV (t + 1) m' → AW G 100 600000 7302250 (ML nm) (XL b Ln xs) FW k n 1103 [some (.ref b), some (.ref (G.2.2.2 0)), some (.ref (G.2.2.2 76)), some (.int (J (6 * t)))] [] (wd G m')) : AW G 100 600000 7302250 (ML nm) (XL b Ln xs) FW k n 404 [some (.ref b), some (.ref (G.2.2.2 0)), some (.ref (G.2.2.2 76)), some (.int (J (6 * t)))] [] (wd G m) := by
  have he : t < 512 := by omega
  refine x_aload_n (i := 214) (pc' := 405) rfl rfl rfl rfl ?_
  refine x_aload_n (i := 215) (pc' := 406) rfl rfl rfl rfl ?_
  refine x_iload_n (i := 216) (pc' := 407) rfl rfl rfl rfl ?_
  refine x_iconst (i := 217) (pc' := 408) rfl rfl ?_
  refine x_iadd (i := 218) (pc' := 409) rfl rfl ?_
  refine x_sld (i := 219) (pc' := 410) rfl rfl hL (by omega) (by omega) ?_
  refine x_aload_n (i := 220) (pc' := 411) rfl rfl rfl rfl ?_
  refine x_iload_n (i := 221) (pc' := 412) rfl rfl rfl rfl ?_
  refine x_iconst (i := 222) (pc' := 413) rfl rfl ?_
  refine x_iadd (i := 223) (pc' := 414) rfl rfl ?_
  refine x_sld (i := 224) (pc' := 415) rfl rfl hL (by omega) (by omega) ?_
  refine x_aload_n (i := 225) (pc' := 416) rfl rfl rfl rfl ?_
  refine x_iload_n (i := 226) (pc' := 417) rfl rfl rfl rfl ?_
  refine x_iconst (i := 227) (pc' := 418) rfl rfl ?_
  refine x_iadd (i := 228) (pc' := 419) rfl rfl ?_
  refine x_sld (i := 229) (pc' := 420) rfl rfl hL (by omega) (by omega) ?_
  refine l_call (q := 0) (i := 230) (pc' := 423) (av := [_, _, _]) (rest := []) rfl rfl (by decide) lL_41 (sh0 G) rfl rfl rfl rfl rfl (Nat.le_of_ble_eq_true rfl) hk hn (st_apart hI he (J_rg _) (J_rg _) (J_rg _)) (fun r m1 h1 => ?_)
  refine x_aload_n (i := 231) (pc' := 424) rfl rfl rfl rfl ?_
  refine x_aload_n (i := 232) (pc' := 425) rfl rfl rfl rfl ?_
  refine x_iload_n (i := 233) (pc' := 426) rfl rfl rfl rfl ?_
  refine x_iconst (i := 234) (pc' := 427) rfl rfl ?_
  refine x_iadd (i := 235) (pc' := 428) rfl rfl ?_
  refine x_sld (i := 236) (pc' := 429) rfl rfl hL (by omega) (by omega) ?_
  refine x_aload_n (i := 237) (pc' := 430) rfl rfl rfl rfl ?_
  refine x_iload_n (i := 238) (pc' := 431) rfl rfl rfl rfl ?_
  refine x_iconst (i := 239) (pc' := 432) rfl rfl ?_
  refine x_iadd (i := 240) (pc' := 433) rfl rfl ?_
  refine x_sld (i := 241) (pc' := 434) rfl rfl hL (by omega) (by omega) ?_
  refine x_aload_n (i := 242) (pc' := 435) rfl rfl rfl rfl ?_
  refine x_iload_n (i := 243) (pc' := 436) rfl rfl rfl rfl ?_
  refine x_iconst (i := 244) (pc' := 437) rfl rfl ?_
  refine x_iadd (i := 245) (pc' := 438) rfl rfl ?_
  refine x_sld (i := 246) (pc' := 439) rfl rfl hL (by omega) (by omega) ?_
  refine l_call (q := 76) (i := 247) (pc' := 442) (av := [_, _, _]) (rest := psh r []) rfl rfl (by decide) lL_44 (sh76 G) rfl rfl rfl rfl rfl (psh_room r) hk hn h1 (fun r2 m2 h2 => ?_)
  obtain ⟨rfl, ⟨z, rfl⟩, h3⟩ := h2
  dsimp only [psh]
  exact x_same (i := 248) rfl (by decide) (kk m2 h3)
set_option maxRecDepth 100000 in
theorem lc_7 {G : GG} {nm : String} {b Ln : Nat} {xs : Nat → Int32} {k n : Nat} {m : Mem} {t : Int} (hL : Ln ≤ 3072) (hk : k ≤ 600000) (hn : n ≤ 7302250) (t0 : 0 ≤ t) (ht : 6 * t + 6 ≤ Ln) (hI : INV t m) (kk : ∀ m' : Mem, INV (t + 1) m' → AW G 100 600000 7302250 (ML nm) (XL b Ln xs) FW k n 1103 [some (.ref b), some (.ref (G.2.2.2 0)), some (.ref (G.2.2.2 76)), some (.int (J (6 * t)))] [] (wd G m')) : AW G 100 600000 7302250 (ML nm) (XL b Ln xs) FW k n 447 [some (.ref b), some (.ref (G.2.2.2 0)), some (.ref (G.2.2.2 76)), some (.int (J (6 * t)))] [] (wd G m) := by
  have he : t < 512 := by omega
  refine x_aload_n (i := 251) (pc' := 448) rfl rfl rfl rfl ?_
  refine x_aload_n (i := 252) (pc' := 449) rfl rfl rfl rfl ?_
  refine x_iload_n (i := 253) (pc' := 450) rfl rfl rfl rfl ?_
  refine x_iconst (i := 254) (pc' := 451) rfl rfl ?_
  refine x_iadd (i := 255) (pc' := 452) rfl rfl ?_
  refine x_sld (i := 256) (pc' := 453) rfl rfl hL (by omega) (by omega) ?_
  refine x_aload_n (i := 257) (pc' := 454) rfl rfl rfl rfl ?_
  refine x_iload_n (i := 258) (pc' := 455) rfl rfl rfl rfl ?_
  refine x_iconst (i := 259) (pc' := 456) rfl rfl ?_
  refine x_iadd (i := 260) (pc' := 457) rfl rfl ?_
  refine x_sld (i := 261) (pc' := 458) rfl rfl hL (by omega) (by omega) ?_
  refine x_aload_n (i := 262) (pc' := 459) rfl rfl rfl rfl ?_
  refine x_iload_n (i := 263) (pc' := 460) rfl rfl rfl rfl ?_
  refine x_iconst (i := 264) (pc' := 461) rfl rfl ?_
  refine x_iadd (i := 265) (pc' := 462) rfl rfl ?_
  refine x_sld (i := 266) (pc' := 463) rfl rfl hL (by omega) (by omega) ?_
  refine x_aload_n (i := 267) (pc' := 464) rfl rfl rfl rfl ?_
  refine x_iload_n (i := 268) (pc' := 465) rfl rfl rfl rfl ?_
  refine x_iconst (i := 269) (pc' := 466) rfl rfl ?_
  refine x_iadd (i := 270) (pc' := 467) rfl rfl ?_
  refine x_sld (i := 271) (pc' := 468) rfl rfl hL (by omega) (by omega) ?_
  refine l_call (q := 0) (i := 272) (pc' := 471) (av := [_, _, _, _]) (rest := []) rfl rfl (by decide) lL_45 (sh0 G) rfl rfl rfl rfl rfl (Nat.le_of_ble_eq_true rfl) hk hn (st_look hI he (J_rg _) (J_rg _) (J_rg _) (J_rg _)) (fun r m1 h1 => ?_)
  refine x_aload_n (i := 273) (pc' := 472) rfl rfl rfl rfl ?_
  refine x_aload_n (i := 274) (pc' := 473) rfl rfl rfl rfl ?_
  refine x_iload_n (i := 275) (pc' := 474) rfl rfl rfl rfl ?_
  refine x_iconst (i := 276) (pc' := 475) rfl rfl ?_
  refine x_iadd (i := 277) (pc' := 476) rfl rfl ?_
  refine x_sld (i := 278) (pc' := 477) rfl rfl hL (by omega) (by omega) ?_
  refine x_aload_n (i := 279) (pc' := 478) rfl rfl rfl rfl ?_
  refine x_iload_n (i := 280) (pc' := 479) rfl rfl rfl rfl ?_
  refine x_iconst (i := 281) (pc' := 480) rfl rfl ?_
  refine x_iadd (i := 282) (pc' := 481) rfl rfl ?_
  refine x_sld (i := 283) (pc' := 482) rfl rfl hL (by omega) (by omega) ?_
  refine x_aload_n (i := 284) (pc' := 483) rfl rfl rfl rfl ?_
  refine x_iload_n (i := 285) (pc' := 484) rfl rfl rfl rfl ?_
  refine x_iconst (i := 286) (pc' := 485) rfl rfl ?_
  refine x_iadd (i := 287) (pc' := 486) rfl rfl ?_
  refine x_sld (i := 288) (pc' := 487) rfl rfl hL (by omega) (by omega) ?_
  refine x_aload_n (i := 289) (pc' := 488) rfl rfl rfl rfl ?_
  refine x_iload_n (i := 290) (pc' := 489) rfl rfl rfl rfl ?_
  refine x_iconst (i := 291) (pc' := 490) rfl rfl ?_
  refine x_iadd (i := 292) (pc' := 491) rfl rfl ?_
  refine x_sld (i := 293) (pc' := 492) rfl rfl hL (by omega) (by omega) ?_
  refine l_call (q := 76) (i := 294) (pc' := 495) (av := [_, _, _, _]) (rest := psh r []) rfl rfl (by decide) lL_49 (sh76 G) rfl rfl rfl rfl rfl (psh_room r) hk hn h1 (fun r2 m2 h2 => ?_)
  obtain ⟨rfl, ⟨z, rfl⟩, h3⟩ := h2
  dsimp only [psh]
  exact x_same (i := 295) rfl (by decide) (kk m2 h3)
set_option maxRecDepth 100000 in
theorem lc_8 {G : GG} {nm : String} {b Ln : Nat} {xs : Nat → Int32} {k n : Nat} {m : Mem} {t : Int} (hL : Ln ≤ 3072) (hk : k ≤ 600000) (hn : n ≤ 7302250) (t0 : 0 ≤ t) (ht : 6 * t + 6 ≤ Ln) (hI : INV t m) (kk : ∀ m' : Mem, INV (t + 1) m' → AW G 100 600000 7302250 (ML nm) (XL b Ln xs) FW k n 1103 [some (.ref b), some (.ref (G.2.2.2 0)), some (.ref (G.2.2.2 76)), some (.int (J (6 * t)))] [] (wd G m')) : AW G 100 600000 7302250 (ML nm) (XL b Ln xs) FW k n 500 [some (.ref b), some (.ref (G.2.2.2 0)), some (.ref (G.2.2.2 76)), some (.int (J (6 * t)))] [] (wd G m) := by
  have he : t < 512 := by omega
  refine x_aload_n (i := 298) (pc' := 501) rfl rfl rfl rfl ?_
  refine x_aload_n (i := 299) (pc' := 502) rfl rfl rfl rfl ?_
  refine x_iload_n (i := 300) (pc' := 503) rfl rfl rfl rfl ?_
  refine x_iconst (i := 301) (pc' := 504) rfl rfl ?_
  refine x_iadd (i := 302) (pc' := 505) rfl rfl ?_
  refine x_sld (i := 303) (pc' := 506) rfl rfl hL (by omega) (by omega) ?_
  refine x_aload_n (i := 304) (pc' := 507) rfl rfl rfl rfl ?_
  refine x_iload_n (i := 305) (pc' := 508) rfl rfl rfl rfl ?_
  refine x_iconst (i := 306) (pc' := 509) rfl rfl ?_
  refine x_iadd (i := 307) (pc' := 510) rfl rfl ?_
  refine x_sld (i := 308) (pc' := 511) rfl rfl hL (by omega) (by omega) ?_
  refine l_call (q := 0) (i := 309) (pc' := 514) (av := [_, _]) (rest := []) rfl rfl (by decide) lL_50 (sh0 G) rfl rfl rfl rfl rfl (Nat.le_of_ble_eq_true rfl) hk hn (st_near hI he (J_rg _) (J_rg _)) (fun r m1 h1 => ?_)
  refine x_aload_n (i := 310) (pc' := 515) rfl rfl rfl rfl ?_
  refine x_aload_n (i := 311) (pc' := 516) rfl rfl rfl rfl ?_
  refine x_iload_n (i := 312) (pc' := 517) rfl rfl rfl rfl ?_
  refine x_iconst (i := 313) (pc' := 518) rfl rfl ?_
  refine x_iadd (i := 314) (pc' := 519) rfl rfl ?_
  refine x_sld (i := 315) (pc' := 520) rfl rfl hL (by omega) (by omega) ?_
  refine x_aload_n (i := 316) (pc' := 521) rfl rfl rfl rfl ?_
  refine x_iload_n (i := 317) (pc' := 522) rfl rfl rfl rfl ?_
  refine x_iconst (i := 318) (pc' := 523) rfl rfl ?_
  refine x_iadd (i := 319) (pc' := 524) rfl rfl ?_
  refine x_sld (i := 320) (pc' := 525) rfl rfl hL (by omega) (by omega) ?_
  refine l_call (q := 76) (i := 321) (pc' := 528) (av := [_, _]) (rest := psh r []) rfl rfl (by decide) lL_53 (sh76 G) rfl rfl rfl rfl rfl (psh_room r) hk hn h1 (fun r2 m2 h2 => ?_)
  obtain ⟨rfl, ⟨z, rfl⟩, h3⟩ := h2
  dsimp only [psh]
  exact x_same (i := 322) rfl (by decide) (kk m2 h3)
set_option maxRecDepth 100000 in
theorem lc_9 {G : GG} {nm : String} {b Ln : Nat} {xs : Nat → Int32} {k n : Nat} {m : Mem} {t : Int} (hL : Ln ≤ 3072) (hk : k ≤ 600000) (hn : n ≤ 7302250) (t0 : 0 ≤ t) (ht : 6 * t + 6 ≤ Ln) (hI : INV t m) (kk : ∀ m' : Mem, INV (t + 1) m' → AW G 100 600000 7302250 (ML nm) (XL b Ln xs) FW k n 1103 [some (.ref b), some (.ref (G.2.2.2 0)), some (.ref (G.2.2.2 76)), some (.int (J (6 * t)))] [] (wd G m')) : AW G 100 600000 7302250 (ML nm) (XL b Ln xs) FW k n 533 [some (.ref b), some (.ref (G.2.2.2 0)), some (.ref (G.2.2.2 76)), some (.int (J (6 * t)))] [] (wd G m) := by
  have he : t < 512 := by omega
  refine x_aload_n (i := 325) (pc' := 534) rfl rfl rfl rfl ?_
  refine x_aload_n (i := 326) (pc' := 535) rfl rfl rfl rfl ?_
  refine x_iload_n (i := 327) (pc' := 536) rfl rfl rfl rfl ?_
  refine x_iconst (i := 328) (pc' := 537) rfl rfl ?_
  refine x_iadd (i := 329) (pc' := 538) rfl rfl ?_
  refine x_sld (i := 330) (pc' := 539) rfl rfl hL (by omega) (by omega) ?_
  refine x_aload_n (i := 331) (pc' := 540) rfl rfl rfl rfl ?_
  refine x_iload_n (i := 332) (pc' := 541) rfl rfl rfl rfl ?_
  refine x_iconst (i := 333) (pc' := 542) rfl rfl ?_
  refine x_iadd (i := 334) (pc' := 543) rfl rfl ?_
  refine x_sld (i := 335) (pc' := 544) rfl rfl hL (by omega) (by omega) ?_
  refine x_aload_n (i := 336) (pc' := 545) rfl rfl rfl rfl ?_
  refine x_iload_n (i := 337) (pc' := 546) rfl rfl rfl rfl ?_
  refine x_iconst (i := 338) (pc' := 547) rfl rfl ?_
  refine x_iadd (i := 339) (pc' := 548) rfl rfl ?_
  refine x_sld (i := 340) (pc' := 549) rfl rfl hL (by omega) (by omega) ?_
  refine x_aload_n (i := 341) (pc' := 550) rfl rfl rfl rfl ?_
  refine x_iload_n (i := 342) (pc' := 551) rfl rfl rfl rfl ?_
  refine x_iconst (i := 343) (pc' := 552) rfl rfl ?_
  refine x_iadd (i := 344) (pc' := 553) rfl rfl ?_
  refine x_sld (i := 345) (pc' := 554) rfl rfl hL (by omega) (by omega) ?_
  refine l_call (q := 0) (i := 346) (pc' := 557) (av := [_, _, _, _]) (rest := []) rfl rfl (by decide) lL_54 (sh0 G) rfl rfl rfl rfl rfl (Nat.le_of_ble_eq_true rfl) hk hn (st_nearest hI he (J_rg _) (J_rg _) (J_rg _) (J_rg _)) (fun r m1 h1 => ?_)
  refine x_aload_n (i := 347) (pc' := 558) rfl rfl rfl rfl ?_
  refine x_aload_n (i := 348) (pc' := 559) rfl rfl rfl rfl ?_
  refine x_iload_n (i := 349) (pc' := 560) rfl rfl rfl rfl ?_
  refine x_iconst (i := 350) (pc' := 561) rfl rfl ?_
  refine x_iadd (i := 351) (pc' := 562) rfl rfl ?_
  refine x_sld (i := 352) (pc' := 563) rfl rfl hL (by omega) (by omega) ?_
  refine x_aload_n (i := 353) (pc' := 564) rfl rfl rfl rfl ?_
  refine x_iload_n (i := 354) (pc' := 565) rfl rfl rfl rfl ?_
  refine x_iconst (i := 355) (pc' := 566) rfl rfl ?_
  refine x_iadd (i := 356) (pc' := 567) rfl rfl ?_
  refine x_sld (i := 357) (pc' := 568) rfl rfl hL (by omega) (by omega) ?_
  refine x_aload_n (i := 358) (pc' := 569) rfl rfl rfl rfl ?_
  refine x_iload_n (i := 359) (pc' := 570) rfl rfl rfl rfl ?_
  refine x_iconst (i := 360) (pc' := 571) rfl rfl ?_
  refine x_iadd (i := 361) (pc' := 572) rfl rfl ?_
  refine x_sld (i := 362) (pc' := 573) rfl rfl hL (by omega) (by omega) ?_
  refine x_aload_n (i := 363) (pc' := 574) rfl rfl rfl rfl ?_
  refine x_iload_n (i := 364) (pc' := 575) rfl rfl rfl rfl ?_
  refine x_iconst (i := 365) (pc' := 576) rfl rfl ?_
  refine x_iadd (i := 366) (pc' := 577) rfl rfl ?_
  refine x_sld (i := 367) (pc' := 578) rfl rfl hL (by omega) (by omega) ?_
  refine l_call (q := 76) (i := 368) (pc' := 581) (av := [_, _, _, _]) (rest := psh r []) rfl rfl (by decide) lL_57 (sh76 G) rfl rfl rfl rfl rfl (psh_room r) hk hn h1 (fun r2 m2 h2 => ?_)
  obtain ⟨rfl, ⟨z, rfl⟩, h3⟩ := h2
  dsimp only [psh]
  exact x_same (i := 369) rfl (by decide) (kk m2 h3)
set_option maxRecDepth 100000 in
theorem lc_10 {G : GG} {nm : String} {b Ln : Nat} {xs : Nat → Int32} {k n : Nat} {m : Mem} {t : Int} (hL : Ln ≤ 3072) (hk : k ≤ 600000) (hn : n ≤ 7302250) (t0 : 0 ≤ t) (ht : 6 * t + 6 ≤ Ln) (hI : INV t m) (kk : ∀ m' : Mem, INV (t + 1) m' → AW G 100 600000 7302250 (ML nm) (XL b Ln xs) FW k n 1103 [some (.ref b), some (.ref (G.2.2.2 0)), some (.ref (G.2.2.2 76)), some (.int (J (6 * t)))] [] (wd G m')) : AW G 100 600000 7302250 (ML nm) (XL b Ln xs) FW k n 586 [some (.ref b), some (.ref (G.2.2.2 0)), some (.ref (G.2.2.2 76)), some (.int (J (6 * t)))] [] (wd G m) := by
  have he : t < 512 := by omega
  refine x_aload_n (i := 372) (pc' := 587) rfl rfl rfl rfl ?_
  refine x_aload_n (i := 373) (pc' := 588) rfl rfl rfl rfl ?_
  refine x_iload_n (i := 374) (pc' := 589) rfl rfl rfl rfl ?_
  refine x_iconst (i := 375) (pc' := 590) rfl rfl ?_
  refine x_iadd (i := 376) (pc' := 591) rfl rfl ?_
  refine x_sld (i := 377) (pc' := 592) rfl rfl hL (by omega) (by omega) ?_
  refine l_call (q := 0) (i := 378) (pc' := 595) (av := [_]) (rest := []) rfl rfl (by decide) lL_58 (sh0 G) rfl rfl rfl rfl rfl (Nat.le_of_ble_eq_true rfl) hk hn (st_sorts hI he (J_rg _)) (fun r m1 h1 => ?_)
  refine x_aload_n (i := 379) (pc' := 596) rfl rfl rfl rfl ?_
  refine x_aload_n (i := 380) (pc' := 597) rfl rfl rfl rfl ?_
  refine x_iload_n (i := 381) (pc' := 598) rfl rfl rfl rfl ?_
  refine x_iconst (i := 382) (pc' := 599) rfl rfl ?_
  refine x_iadd (i := 383) (pc' := 600) rfl rfl ?_
  refine x_sld (i := 384) (pc' := 601) rfl rfl hL (by omega) (by omega) ?_
  refine l_call (q := 76) (i := 385) (pc' := 604) (av := [_]) (rest := psh r []) rfl rfl (by decide) lL_61 (sh76 G) rfl rfl rfl rfl rfl (psh_room r) hk hn h1 (fun r2 m2 h2 => ?_)
  obtain ⟨rfl, ⟨z, rfl⟩, h3⟩ := h2
  dsimp only [psh]
  exact x_same (i := 386) rfl (by decide) (kk m2 h3)
set_option maxRecDepth 100000 in
theorem lc_11 {G : GG} {nm : String} {b Ln : Nat} {xs : Nat → Int32} {k n : Nat} {m : Mem} {t : Int} (hL : Ln ≤ 3072) (hk : k ≤ 600000) (hn : n ≤ 7302250) (t0 : 0 ≤ t) (ht : 6 * t + 6 ≤ Ln) (hI : INV t m) (kk : ∀ m' : Mem, INV (t + 1) m' → AW G 100 600000 7302250 (ML nm) (XL b Ln xs) FW k n 1103 [some (.ref b), some (.ref (G.2.2.2 0)), some (.ref (G.2.2.2 76)), some (.int (J (6 * t)))] [] (wd G m')) : AW G 100 600000 7302250 (ML nm) (XL b Ln xs) FW k n 609 [some (.ref b), some (.ref (G.2.2.2 0)), some (.ref (G.2.2.2 76)), some (.int (J (6 * t)))] [] (wd G m) := by
  have he : t < 512 := by omega
  refine x_aload_n (i := 389) (pc' := 610) rfl rfl rfl rfl ?_
  refine x_aload_n (i := 390) (pc' := 611) rfl rfl rfl rfl ?_
  refine x_iload_n (i := 391) (pc' := 612) rfl rfl rfl rfl ?_
  refine x_iconst (i := 392) (pc' := 613) rfl rfl ?_
  refine x_iadd (i := 393) (pc' := 614) rfl rfl ?_
  refine x_sld (i := 394) (pc' := 615) rfl rfl hL (by omega) (by omega) ?_
  refine x_aload_n (i := 395) (pc' := 616) rfl rfl rfl rfl ?_
  refine x_iload_n (i := 396) (pc' := 617) rfl rfl rfl rfl ?_
  refine x_iconst (i := 397) (pc' := 618) rfl rfl ?_
  refine x_iadd (i := 398) (pc' := 619) rfl rfl ?_
  refine x_sld (i := 399) (pc' := 620) rfl rfl hL (by omega) (by omega) ?_
  refine l_call (q := 0) (i := 400) (pc' := 623) (av := [_, _]) (rest := []) rfl rfl (by decide) lL_62 (sh0 G) rfl rfl rfl rfl rfl (Nat.le_of_ble_eq_true rfl) hk hn (st_groups hI he (J_rg _) (J_rg _)) (fun r m1 h1 => ?_)
  refine x_aload_n (i := 401) (pc' := 624) rfl rfl rfl rfl ?_
  refine x_aload_n (i := 402) (pc' := 625) rfl rfl rfl rfl ?_
  refine x_iload_n (i := 403) (pc' := 626) rfl rfl rfl rfl ?_
  refine x_iconst (i := 404) (pc' := 627) rfl rfl ?_
  refine x_iadd (i := 405) (pc' := 628) rfl rfl ?_
  refine x_sld (i := 406) (pc' := 629) rfl rfl hL (by omega) (by omega) ?_
  refine x_aload_n (i := 407) (pc' := 630) rfl rfl rfl rfl ?_
  refine x_iload_n (i := 408) (pc' := 631) rfl rfl rfl rfl ?_
  refine x_iconst (i := 409) (pc' := 632) rfl rfl ?_
  refine x_iadd (i := 410) (pc' := 633) rfl rfl ?_
  refine x_sld (i := 411) (pc' := 634) rfl rfl hL (by omega) (by omega) ?_
  refine l_call (q := 76) (i := 412) (pc' := 637) (av := [_, _]) (rest := psh r []) rfl rfl (by decide) lL_65 (sh76 G) rfl rfl rfl rfl rfl (psh_room r) hk hn h1 (fun r2 m2 h2 => ?_)
  obtain ⟨rfl, ⟨z, rfl⟩, h3⟩ := h2
  dsimp only [psh]
  exact x_same (i := 413) rfl (by decide) (kk m2 h3)
set_option maxRecDepth 100000 in
theorem lc_12 {G : GG} {nm : String} {b Ln : Nat} {xs : Nat → Int32} {k n : Nat} {m : Mem} {t : Int} (hL : Ln ≤ 3072) (hk : k ≤ 600000) (hn : n ≤ 7302250) (t0 : 0 ≤ t) (ht : 6 * t + 6 ≤ Ln) (hI : INV t m) (kk : ∀ m' : Mem, INV (t + 1) m' → AW G 100 600000 7302250 (ML nm) (XL b Ln xs) FW k n 1103 [some (.ref b), some (.ref (G.2.2.2 0)), some (.ref (G.2.2.2 76)), some (.int (J (6 * t)))] [] (wd G m')) : AW G 100 600000 7302250 (ML nm) (XL b Ln xs) FW k n 642 [some (.ref b), some (.ref (G.2.2.2 0)), some (.ref (G.2.2.2 76)), some (.int (J (6 * t)))] [] (wd G m) := by
  have he : t < 512 := by omega
  refine x_aload_n (i := 416) (pc' := 643) rfl rfl rfl rfl ?_
  refine x_aload_n (i := 417) (pc' := 644) rfl rfl rfl rfl ?_
  refine x_iload_n (i := 418) (pc' := 645) rfl rfl rfl rfl ?_
  refine x_iconst (i := 419) (pc' := 646) rfl rfl ?_
  refine x_iadd (i := 420) (pc' := 647) rfl rfl ?_
  refine x_sld (i := 421) (pc' := 648) rfl rfl hL (by omega) (by omega) ?_
  refine l_call (q := 0) (i := 422) (pc' := 651) (av := [_]) (rest := []) rfl rfl (by decide) lL_66 (sh0 G) rfl rfl rfl rfl rfl (Nat.le_of_ble_eq_true rfl) hk hn (st_twins hI he (J_rg _)) (fun r m1 h1 => ?_)
  refine x_aload_n (i := 423) (pc' := 652) rfl rfl rfl rfl ?_
  refine x_aload_n (i := 424) (pc' := 653) rfl rfl rfl rfl ?_
  refine x_iload_n (i := 425) (pc' := 654) rfl rfl rfl rfl ?_
  refine x_iconst (i := 426) (pc' := 655) rfl rfl ?_
  refine x_iadd (i := 427) (pc' := 656) rfl rfl ?_
  refine x_sld (i := 428) (pc' := 657) rfl rfl hL (by omega) (by omega) ?_
  refine l_call (q := 76) (i := 429) (pc' := 660) (av := [_]) (rest := psh r []) rfl rfl (by decide) lL_69 (sh76 G) rfl rfl rfl rfl rfl (psh_room r) hk hn h1 (fun r2 m2 h2 => ?_)
  obtain ⟨rfl, ⟨z, rfl⟩, h3⟩ := h2
  dsimp only [psh]
  exact x_same (i := 430) rfl (by decide) (kk m2 h3)
set_option maxRecDepth 100000 in
theorem lc_13 {G : GG} {nm : String} {b Ln : Nat} {xs : Nat → Int32} {k n : Nat} {m : Mem} {t : Int} (hL : Ln ≤ 3072) (hk : k ≤ 600000) (hn : n ≤ 7302250) (t0 : 0 ≤ t) (ht : 6 * t + 6 ≤ Ln) (hI : INV t m) (kk : ∀ m' : Mem, INV (t + 1) m' → AW G 100 600000 7302250 (ML nm) (XL b Ln xs) FW k n 1103 [some (.ref b), some (.ref (G.2.2.2 0)), some (.ref (G.2.2.2 76)), some (.int (J (6 * t)))] [] (wd G m')) : AW G 100 600000 7302250 (ML nm) (XL b Ln xs) FW k n 665 [some (.ref b), some (.ref (G.2.2.2 0)), some (.ref (G.2.2.2 76)), some (.int (J (6 * t)))] [] (wd G m) := by
  have he : t < 512 := by omega
  refine x_aload_n (i := 433) (pc' := 666) rfl rfl rfl rfl ?_
  refine x_aload_n (i := 434) (pc' := 667) rfl rfl rfl rfl ?_
  refine x_iload_n (i := 435) (pc' := 668) rfl rfl rfl rfl ?_
  refine x_iconst (i := 436) (pc' := 669) rfl rfl ?_
  refine x_iadd (i := 437) (pc' := 670) rfl rfl ?_
  refine x_sld (i := 438) (pc' := 671) rfl rfl hL (by omega) (by omega) ?_
  refine l_call (q := 0) (i := 439) (pc' := 674) (av := [_]) (rest := []) rfl rfl (by decide) lL_70 (sh0 G) rfl rfl rfl rfl rfl (Nat.le_of_ble_eq_true rfl) hk hn (st_enough hI he (J_rg _)) (fun r m1 h1 => ?_)
  refine x_aload_n (i := 440) (pc' := 675) rfl rfl rfl rfl ?_
  refine x_aload_n (i := 441) (pc' := 676) rfl rfl rfl rfl ?_
  refine x_iload_n (i := 442) (pc' := 677) rfl rfl rfl rfl ?_
  refine x_iconst (i := 443) (pc' := 678) rfl rfl ?_
  refine x_iadd (i := 444) (pc' := 679) rfl rfl ?_
  refine x_sld (i := 445) (pc' := 680) rfl rfl hL (by omega) (by omega) ?_
  refine l_call (q := 76) (i := 446) (pc' := 683) (av := [_]) (rest := psh r []) rfl rfl (by decide) lL_73 (sh76 G) rfl rfl rfl rfl rfl (psh_room r) hk hn h1 (fun r2 m2 h2 => ?_)
  obtain ⟨rfl, ⟨z, rfl⟩, h3⟩ := h2
  dsimp only [psh]
  exact x_same (i := 447) rfl (by decide) (kk m2 h3)
set_option maxRecDepth 100000 in
theorem lc_14 {G : GG} {nm : String} {b Ln : Nat} {xs : Nat → Int32} {k n : Nat} {m : Mem} {t : Int} (hL : Ln ≤ 3072) (hk : k ≤ 600000) (hn : n ≤ 7302250) (t0 : 0 ≤ t) (ht : 6 * t + 6 ≤ Ln) (hI : INV t m) (kk : ∀ m' : Mem, INV (t + 1) m' → AW G 100 600000 7302250 (ML nm) (XL b Ln xs) FW k n 1103 [some (.ref b), some (.ref (G.2.2.2 0)), some (.ref (G.2.2.2 76)), some (.int (J (6 * t)))] [] (wd G m')) : AW G 100 600000 7302250 (ML nm) (XL b Ln xs) FW k n 688 [some (.ref b), some (.ref (G.2.2.2 0)), some (.ref (G.2.2.2 76)), some (.int (J (6 * t)))] [] (wd G m) := by
  have he : t < 512 := by omega
  refine x_aload_n (i := 450) (pc' := 689) rfl rfl rfl rfl ?_
  refine x_aload_n (i := 451) (pc' := 690) rfl rfl rfl rfl ?_
  refine x_iload_n (i := 452) (pc' := 691) rfl rfl rfl rfl ?_
  refine x_iconst (i := 453) (pc' := 692) rfl rfl ?_
  refine x_iadd (i := 454) (pc' := 693) rfl rfl ?_
  refine x_sld (i := 455) (pc' := 694) rfl rfl hL (by omega) (by omega) ?_
  refine l_call (q := 0) (i := 456) (pc' := 697) (av := [_]) (rest := []) rfl rfl (by decide) lL_74 (sh0 G) rfl rfl rfl rfl rfl (Nat.le_of_ble_eq_true rfl) hk hn (st_span hI he (J_rg _)) (fun r m1 h1 => ?_)
  refine x_aload_n (i := 457) (pc' := 698) rfl rfl rfl rfl ?_
  refine x_aload_n (i := 458) (pc' := 699) rfl rfl rfl rfl ?_
  refine x_iload_n (i := 459) (pc' := 700) rfl rfl rfl rfl ?_
  refine x_iconst (i := 460) (pc' := 701) rfl rfl ?_
  refine x_iadd (i := 461) (pc' := 702) rfl rfl ?_
  refine x_sld (i := 462) (pc' := 703) rfl rfl hL (by omega) (by omega) ?_
  refine l_call (q := 76) (i := 463) (pc' := 706) (av := [_]) (rest := psh r []) rfl rfl (by decide) lL_77 (sh76 G) rfl rfl rfl rfl rfl (psh_room r) hk hn h1 (fun r2 m2 h2 => ?_)
  obtain ⟨rfl, ⟨z, rfl⟩, h3⟩ := h2
  dsimp only [psh]
  exact x_same (i := 464) rfl (by decide) (kk m2 h3)
set_option maxRecDepth 100000 in
theorem lc_15 {G : GG} {nm : String} {b Ln : Nat} {xs : Nat → Int32} {k n : Nat} {m : Mem} {t : Int} (hL : Ln ≤ 3072) (hk : k ≤ 600000) (hn : n ≤ 7302250) (t0 : 0 ≤ t) (ht : 6 * t + 6 ≤ Ln) (hI : INV t m) (kk : ∀ m' : Mem, INV (t + 1) m' → AW G 100 600000 7302250 (ML nm) (XL b Ln xs) FW k n 1103 [some (.ref b), some (.ref (G.2.2.2 0)), some (.ref (G.2.2.2 76)), some (.int (J (6 * t)))] [] (wd G m')) : AW G 100 600000 7302250 (ML nm) (XL b Ln xs) FW k n 711 [some (.ref b), some (.ref (G.2.2.2 0)), some (.ref (G.2.2.2 76)), some (.int (J (6 * t)))] [] (wd G m) := by
  have he : t < 512 := by omega
  refine x_aload_n (i := 467) (pc' := 712) rfl rfl rfl rfl ?_
  refine x_aload_n (i := 468) (pc' := 713) rfl rfl rfl rfl ?_
  refine x_iload_n (i := 469) (pc' := 714) rfl rfl rfl rfl ?_
  refine x_iconst (i := 470) (pc' := 715) rfl rfl ?_
  refine x_iadd (i := 471) (pc' := 716) rfl rfl ?_
  refine x_sld (i := 472) (pc' := 717) rfl rfl hL (by omega) (by omega) ?_
  refine x_aload_n (i := 473) (pc' := 718) rfl rfl rfl rfl ?_
  refine x_iload_n (i := 474) (pc' := 719) rfl rfl rfl rfl ?_
  refine x_iconst (i := 475) (pc' := 720) rfl rfl ?_
  refine x_iadd (i := 476) (pc' := 721) rfl rfl ?_
  refine x_sld (i := 477) (pc' := 722) rfl rfl hL (by omega) (by omega) ?_
  refine x_aload_n (i := 478) (pc' := 723) rfl rfl rfl rfl ?_
  refine x_iload_n (i := 479) (pc' := 724) rfl rfl rfl rfl ?_
  refine x_iconst (i := 480) (pc' := 725) rfl rfl ?_
  refine x_iadd (i := 481) (pc' := 726) rfl rfl ?_
  refine x_sld (i := 482) (pc' := 727) rfl rfl hL (by omega) (by omega) ?_
  refine l_call (q := 0) (i := 483) (pc' := 730) (av := [_, _, _]) (rest := []) rfl rfl (by decide) lL_78 (sh0 G) rfl rfl rfl rfl rfl (Nat.le_of_ble_eq_true rfl) hk hn (st_word hI he (J_rg _) (J_rg _) (J_rg _)) (fun r m1 h1 => ?_)
  refine x_aload_n (i := 484) (pc' := 731) rfl rfl rfl rfl ?_
  refine x_aload_n (i := 485) (pc' := 732) rfl rfl rfl rfl ?_
  refine x_iload_n (i := 486) (pc' := 733) rfl rfl rfl rfl ?_
  refine x_iconst (i := 487) (pc' := 734) rfl rfl ?_
  refine x_iadd (i := 488) (pc' := 735) rfl rfl ?_
  refine x_sld (i := 489) (pc' := 736) rfl rfl hL (by omega) (by omega) ?_
  refine x_aload_n (i := 490) (pc' := 737) rfl rfl rfl rfl ?_
  refine x_iload_n (i := 491) (pc' := 738) rfl rfl rfl rfl ?_
  refine x_iconst (i := 492) (pc' := 739) rfl rfl ?_
  refine x_iadd (i := 493) (pc' := 740) rfl rfl ?_
  refine x_sld (i := 494) (pc' := 741) rfl rfl hL (by omega) (by omega) ?_
  refine x_aload_n (i := 495) (pc' := 742) rfl rfl rfl rfl ?_
  refine x_iload_n (i := 496) (pc' := 743) rfl rfl rfl rfl ?_
  refine x_iconst (i := 497) (pc' := 744) rfl rfl ?_
  refine x_iadd (i := 498) (pc' := 745) rfl rfl ?_
  refine x_sld (i := 499) (pc' := 746) rfl rfl hL (by omega) (by omega) ?_
  refine l_call (q := 76) (i := 500) (pc' := 749) (av := [_, _, _]) (rest := psh r []) rfl rfl (by decide) lL_81 (sh76 G) rfl rfl rfl rfl rfl (psh_room r) hk hn h1 (fun r2 m2 h2 => ?_)
  obtain ⟨rfl, ⟨z, rfl⟩, h3⟩ := h2
  dsimp only [psh]
  exact x_same (i := 501) rfl (by decide) (kk m2 h3)
set_option maxRecDepth 100000 in
theorem lc_16 {G : GG} {nm : String} {b Ln : Nat} {xs : Nat → Int32} {k n : Nat} {m : Mem} {t : Int} (hL : Ln ≤ 3072) (hk : k ≤ 600000) (hn : n ≤ 7302250) (t0 : 0 ≤ t) (ht : 6 * t + 6 ≤ Ln) (hI : INV t m) (kk : ∀ m' : Mem, INV (t + 1) m' → AW G 100 600000 7302250 (ML nm) (XL b Ln xs) FW k n 1103 [some (.ref b), some (.ref (G.2.2.2 0)), some (.ref (G.2.2.2 76)), some (.int (J (6 * t)))] [] (wd G m')) : AW G 100 600000 7302250 (ML nm) (XL b Ln xs) FW k n 754 [some (.ref b), some (.ref (G.2.2.2 0)), some (.ref (G.2.2.2 76)), some (.int (J (6 * t)))] [] (wd G m) := by
  have he : t < 512 := by omega
  refine x_aload_n (i := 504) (pc' := 755) rfl rfl rfl rfl ?_
  refine x_aload_n (i := 505) (pc' := 756) rfl rfl rfl rfl ?_
  refine x_iload_n (i := 506) (pc' := 757) rfl rfl rfl rfl ?_
  refine x_iconst (i := 507) (pc' := 758) rfl rfl ?_
  refine x_iadd (i := 508) (pc' := 759) rfl rfl ?_
  refine x_sld (i := 509) (pc' := 760) rfl rfl hL (by omega) (by omega) ?_
  refine l_call (q := 0) (i := 510) (pc' := 763) (av := [_]) (rest := []) rfl rfl (by decide) lL_82 (sh0 G) rfl rfl rfl rfl rfl (Nat.le_of_ble_eq_true rfl) hk hn (st_cuts hI he (J_rg _)) (fun r m1 h1 => ?_)
  refine x_aload_n (i := 511) (pc' := 764) rfl rfl rfl rfl ?_
  refine x_aload_n (i := 512) (pc' := 765) rfl rfl rfl rfl ?_
  refine x_iload_n (i := 513) (pc' := 766) rfl rfl rfl rfl ?_
  refine x_iconst (i := 514) (pc' := 767) rfl rfl ?_
  refine x_iadd (i := 515) (pc' := 768) rfl rfl ?_
  refine x_sld (i := 516) (pc' := 769) rfl rfl hL (by omega) (by omega) ?_
  refine l_call (q := 76) (i := 517) (pc' := 772) (av := [_]) (rest := psh r []) rfl rfl (by decide) lL_85 (sh76 G) rfl rfl rfl rfl rfl (psh_room r) hk hn h1 (fun r2 m2 h2 => ?_)
  obtain ⟨rfl, ⟨z, rfl⟩, h3⟩ := h2
  dsimp only [psh]
  exact x_same (i := 518) rfl (by decide) (kk m2 h3)
set_option maxRecDepth 100000 in
theorem lc_17 {G : GG} {nm : String} {b Ln : Nat} {xs : Nat → Int32} {k n : Nat} {m : Mem} {t : Int} (hL : Ln ≤ 3072) (hk : k ≤ 600000) (hn : n ≤ 7302250) (t0 : 0 ≤ t) (ht : 6 * t + 6 ≤ Ln) (hI : INV t m) (kk : ∀ m' : Mem, INV (t + 1) m' → AW G 100 600000 7302250 (ML nm) (XL b Ln xs) FW k n 1103 [some (.ref b), some (.ref (G.2.2.2 0)), some (.ref (G.2.2.2 76)), some (.int (J (6 * t)))] [] (wd G m')) : AW G 100 600000 7302250 (ML nm) (XL b Ln xs) FW k n 777 [some (.ref b), some (.ref (G.2.2.2 0)), some (.ref (G.2.2.2 76)), some (.int (J (6 * t)))] [] (wd G m) := by
  have he : t < 512 := by omega
  refine x_aload_n (i := 521) (pc' := 778) rfl rfl rfl rfl ?_
  refine x_aload_n (i := 522) (pc' := 779) rfl rfl rfl rfl ?_
  refine x_iload_n (i := 523) (pc' := 780) rfl rfl rfl rfl ?_
  refine x_iconst (i := 524) (pc' := 781) rfl rfl ?_
  refine x_iadd (i := 525) (pc' := 782) rfl rfl ?_
  refine x_sld (i := 526) (pc' := 783) rfl rfl hL (by omega) (by omega) ?_
  refine x_aload_n (i := 527) (pc' := 784) rfl rfl rfl rfl ?_
  refine x_iload_n (i := 528) (pc' := 785) rfl rfl rfl rfl ?_
  refine x_iconst (i := 529) (pc' := 786) rfl rfl ?_
  refine x_iadd (i := 530) (pc' := 787) rfl rfl ?_
  refine x_sld (i := 531) (pc' := 788) rfl rfl hL (by omega) (by omega) ?_
  refine l_call (q := 0) (i := 532) (pc' := 791) (av := [_, _]) (rest := []) rfl rfl (by decide) lL_86 (sh0 G) rfl rfl rfl rfl rfl (Nat.le_of_ble_eq_true rfl) hk hn (st_shifts hI he (J_rg _) (J_rg _)) (fun r m1 h1 => ?_)
  refine x_aload_n (i := 533) (pc' := 792) rfl rfl rfl rfl ?_
  refine x_aload_n (i := 534) (pc' := 793) rfl rfl rfl rfl ?_
  refine x_iload_n (i := 535) (pc' := 794) rfl rfl rfl rfl ?_
  refine x_iconst (i := 536) (pc' := 795) rfl rfl ?_
  refine x_iadd (i := 537) (pc' := 796) rfl rfl ?_
  refine x_sld (i := 538) (pc' := 797) rfl rfl hL (by omega) (by omega) ?_
  refine x_aload_n (i := 539) (pc' := 798) rfl rfl rfl rfl ?_
  refine x_iload_n (i := 540) (pc' := 799) rfl rfl rfl rfl ?_
  refine x_iconst (i := 541) (pc' := 800) rfl rfl ?_
  refine x_iadd (i := 542) (pc' := 801) rfl rfl ?_
  refine x_sld (i := 543) (pc' := 802) rfl rfl hL (by omega) (by omega) ?_
  refine l_call (q := 76) (i := 544) (pc' := 805) (av := [_, _]) (rest := psh r []) rfl rfl (by decide) lL_89 (sh76 G) rfl rfl rfl rfl rfl (psh_room r) hk hn h1 (fun r2 m2 h2 => ?_)
  obtain ⟨rfl, ⟨z, rfl⟩, h3⟩ := h2
  dsimp only [psh]
  exact x_same (i := 545) rfl (by decide) (kk m2 h3)
set_option maxRecDepth 100000 in
theorem lc_18 {G : GG} {nm : String} {b Ln : Nat} {xs : Nat → Int32} {k n : Nat} {m : Mem} {t : Int} (hL : Ln ≤ 3072) (hk : k ≤ 600000) (hn : n ≤ 7302250) (t0 : 0 ≤ t) (ht : 6 * t + 6 ≤ Ln) (hI : INV t m) (kk : ∀ m' : Mem, INV (t + 1) m' → AW G 100 600000 7302250 (ML nm) (XL b Ln xs) FW k n 1103 [some (.ref b), some (.ref (G.2.2.2 0)), some (.ref (G.2.2.2 76)), some (.int (J (6 * t)))] [] (wd G m')) : AW G 100 600000 7302250 (ML nm) (XL b Ln xs) FW k n 810 [some (.ref b), some (.ref (G.2.2.2 0)), some (.ref (G.2.2.2 76)), some (.int (J (6 * t)))] [] (wd G m) := by
  have he : t < 512 := by omega
  refine x_aload_n (i := 548) (pc' := 811) rfl rfl rfl rfl ?_
  refine l_call (q := 0) (i := 549) (pc' := 814) (av := []) (rest := []) rfl rfl (by decide) lL_90 (sh0 G) rfl rfl rfl rfl rfl (Nat.le_of_ble_eq_true rfl) hk hn (st_clears hI he) (fun r m1 h1 => ?_)
  refine x_aload_n (i := 550) (pc' := 815) rfl rfl rfl rfl ?_
  refine l_call (q := 76) (i := 551) (pc' := 818) (av := []) (rest := psh r []) rfl rfl (by decide) lL_94 (sh76 G) rfl rfl rfl rfl rfl (psh_room r) hk hn h1 (fun r2 m2 h2 => ?_)
  obtain ⟨rfl, ⟨z, rfl⟩, h3⟩ := h2
  dsimp only [psh]
  exact x_same (i := 552) rfl (by decide) (kk m2 h3)
set_option maxRecDepth 100000 in
theorem lc_19 {G : GG} {nm : String} {b Ln : Nat} {xs : Nat → Int32} {k n : Nat} {m : Mem} {t : Int} (hL : Ln ≤ 3072) (hk : k ≤ 600000) (hn : n ≤ 7302250) (t0 : 0 ≤ t) (ht : 6 * t + 6 ≤ Ln) (hI : INV t m) (kk : ∀ m' : Mem, INV (t + 1) m' → AW G 100 600000 7302250 (ML nm) (XL b Ln xs) FW k n 1103 [some (.ref b), some (.ref (G.2.2.2 0)), some (.ref (G.2.2.2 76)), some (.int (J (6 * t)))] [] (wd G m')) : AW G 100 600000 7302250 (ML nm) (XL b Ln xs) FW k n 823 [some (.ref b), some (.ref (G.2.2.2 0)), some (.ref (G.2.2.2 76)), some (.int (J (6 * t)))] [] (wd G m) := by
  have he : t < 512 := by omega
  refine x_aload_n (i := 555) (pc' := 824) rfl rfl rfl rfl ?_
  refine x_aload_n (i := 556) (pc' := 825) rfl rfl rfl rfl ?_
  refine x_iload_n (i := 557) (pc' := 826) rfl rfl rfl rfl ?_
  refine x_iconst (i := 558) (pc' := 827) rfl rfl ?_
  refine x_iadd (i := 559) (pc' := 828) rfl rfl ?_
  refine x_sld (i := 560) (pc' := 829) rfl rfl hL (by omega) (by omega) ?_
  refine x_aload_n (i := 561) (pc' := 830) rfl rfl rfl rfl ?_
  refine x_iload_n (i := 562) (pc' := 831) rfl rfl rfl rfl ?_
  refine x_iconst (i := 563) (pc' := 832) rfl rfl ?_
  refine x_iadd (i := 564) (pc' := 833) rfl rfl ?_
  refine x_sld (i := 565) (pc' := 834) rfl rfl hL (by omega) (by omega) ?_
  refine l_call (q := 0) (i := 566) (pc' := 837) (av := [_, _]) (rest := []) rfl rfl (by decide) lL_95 (sh0 G) rfl rfl rfl rfl rfl (Nat.le_of_ble_eq_true rfl) hk hn (st_wordOf hI he (J_rg _) (J_rg _)) (fun r m1 h1 => ?_)
  refine x_aload_n (i := 567) (pc' := 838) rfl rfl rfl rfl ?_
  refine x_aload_n (i := 568) (pc' := 839) rfl rfl rfl rfl ?_
  refine x_iload_n (i := 569) (pc' := 840) rfl rfl rfl rfl ?_
  refine x_iconst (i := 570) (pc' := 841) rfl rfl ?_
  refine x_iadd (i := 571) (pc' := 842) rfl rfl ?_
  refine x_sld (i := 572) (pc' := 843) rfl rfl hL (by omega) (by omega) ?_
  refine x_aload_n (i := 573) (pc' := 844) rfl rfl rfl rfl ?_
  refine x_iload_n (i := 574) (pc' := 845) rfl rfl rfl rfl ?_
  refine x_iconst (i := 575) (pc' := 846) rfl rfl ?_
  refine x_iadd (i := 576) (pc' := 847) rfl rfl ?_
  refine x_sld (i := 577) (pc' := 848) rfl rfl hL (by omega) (by omega) ?_
  refine l_call (q := 76) (i := 578) (pc' := 851) (av := [_, _]) (rest := psh r []) rfl rfl (by decide) lL_98 (sh76 G) rfl rfl rfl rfl rfl (psh_room r) hk hn h1 (fun r2 m2 h2 => ?_)
  obtain ⟨rfl, ⟨z, rfl⟩, h3⟩ := h2
  dsimp only [psh]
  exact x_same (i := 579) rfl (by decide) (kk m2 h3)
set_option maxRecDepth 100000 in
theorem lc_20 {G : GG} {nm : String} {b Ln : Nat} {xs : Nat → Int32} {k n : Nat} {m : Mem} {t : Int} (hL : Ln ≤ 3072) (hk : k ≤ 600000) (hn : n ≤ 7302250) (t0 : 0 ≤ t) (ht : 6 * t + 6 ≤ Ln) (hI : INV t m) (kk : ∀ m' : Mem, INV (t + 1) m' → AW G 100 600000 7302250 (ML nm) (XL b Ln xs) FW k n 1103 [some (.ref b), some (.ref (G.2.2.2 0)), some (.ref (G.2.2.2 76)), some (.int (J (6 * t)))] [] (wd G m')) : AW G 100 600000 7302250 (ML nm) (XL b Ln xs) FW k n 856 [some (.ref b), some (.ref (G.2.2.2 0)), some (.ref (G.2.2.2 76)), some (.int (J (6 * t)))] [] (wd G m) := by
  have he : t < 512 := by omega
  refine x_aload_n (i := 582) (pc' := 857) rfl rfl rfl rfl ?_
  refine x_aload_n (i := 583) (pc' := 858) rfl rfl rfl rfl ?_
  refine x_iload_n (i := 584) (pc' := 859) rfl rfl rfl rfl ?_
  refine x_iconst (i := 585) (pc' := 860) rfl rfl ?_
  refine x_iadd (i := 586) (pc' := 861) rfl rfl ?_
  refine x_sld (i := 587) (pc' := 862) rfl rfl hL (by omega) (by omega) ?_
  refine x_aload_n (i := 588) (pc' := 863) rfl rfl rfl rfl ?_
  refine x_iload_n (i := 589) (pc' := 864) rfl rfl rfl rfl ?_
  refine x_iconst (i := 590) (pc' := 865) rfl rfl ?_
  refine x_iadd (i := 591) (pc' := 866) rfl rfl ?_
  refine x_sld (i := 592) (pc' := 867) rfl rfl hL (by omega) (by omega) ?_
  refine l_call (q := 0) (i := 593) (pc' := 870) (av := [_, _]) (rest := []) rfl rfl (by decide) lL_99 (sh0 G) rfl rfl rfl rfl rfl (Nat.le_of_ble_eq_true rfl) hk hn (st_at hI he (J_rg _) (J_rg _)) (fun r m1 h1 => ?_)
  refine x_aload_n (i := 594) (pc' := 871) rfl rfl rfl rfl ?_
  refine x_aload_n (i := 595) (pc' := 872) rfl rfl rfl rfl ?_
  refine x_iload_n (i := 596) (pc' := 873) rfl rfl rfl rfl ?_
  refine x_iconst (i := 597) (pc' := 874) rfl rfl ?_
  refine x_iadd (i := 598) (pc' := 875) rfl rfl ?_
  refine x_sld (i := 599) (pc' := 876) rfl rfl hL (by omega) (by omega) ?_
  refine x_aload_n (i := 600) (pc' := 877) rfl rfl rfl rfl ?_
  refine x_iload_n (i := 601) (pc' := 878) rfl rfl rfl rfl ?_
  refine x_iconst (i := 602) (pc' := 879) rfl rfl ?_
  refine x_iadd (i := 603) (pc' := 880) rfl rfl ?_
  refine x_sld (i := 604) (pc' := 881) rfl rfl hL (by omega) (by omega) ?_
  refine l_call (q := 76) (i := 605) (pc' := 884) (av := [_, _]) (rest := psh r []) rfl rfl (by decide) lL_102 (sh76 G) rfl rfl rfl rfl rfl (psh_room r) hk hn h1 (fun r2 m2 h2 => ?_)
  obtain ⟨rfl, ⟨z, rfl⟩, h3⟩ := h2
  dsimp only [psh]
  exact x_same (i := 606) rfl (by decide) (kk m2 h3)
set_option maxRecDepth 100000 in
theorem lc_21 {G : GG} {nm : String} {b Ln : Nat} {xs : Nat → Int32} {k n : Nat} {m : Mem} {t : Int} (hL : Ln ≤ 3072) (hk : k ≤ 600000) (hn : n ≤ 7302250) (t0 : 0 ≤ t) (ht : 6 * t + 6 ≤ Ln) (hI : INV t m) (kk : ∀ m' : Mem, INV (t + 1) m' → AW G 100 600000 7302250 (ML nm) (XL b Ln xs) FW k n 1103 [some (.ref b), some (.ref (G.2.2.2 0)), some (.ref (G.2.2.2 76)), some (.int (J (6 * t)))] [] (wd G m')) : AW G 100 600000 7302250 (ML nm) (XL b Ln xs) FW k n 889 [some (.ref b), some (.ref (G.2.2.2 0)), some (.ref (G.2.2.2 76)), some (.int (J (6 * t)))] [] (wd G m) := by
  have he : t < 512 := by omega
  refine x_aload_n (i := 609) (pc' := 890) rfl rfl rfl rfl ?_
  refine x_aload_n (i := 610) (pc' := 891) rfl rfl rfl rfl ?_
  refine x_iload_n (i := 611) (pc' := 892) rfl rfl rfl rfl ?_
  refine x_iconst (i := 612) (pc' := 893) rfl rfl ?_
  refine x_iadd (i := 613) (pc' := 894) rfl rfl ?_
  refine x_sld (i := 614) (pc' := 895) rfl rfl hL (by omega) (by omega) ?_
  refine l_call (q := 0) (i := 615) (pc' := 898) (av := [_]) (rest := []) rfl rfl (by decide) lL_103 (sh0 G) rfl rfl rfl rfl rfl (Nat.le_of_ble_eq_true rfl) hk hn (st_all hI he (J_rg _)) (fun r m1 h1 => ?_)
  refine x_aload_n (i := 616) (pc' := 899) rfl rfl rfl rfl ?_
  refine x_aload_n (i := 617) (pc' := 900) rfl rfl rfl rfl ?_
  refine x_iload_n (i := 618) (pc' := 901) rfl rfl rfl rfl ?_
  refine x_iconst (i := 619) (pc' := 902) rfl rfl ?_
  refine x_iadd (i := 620) (pc' := 903) rfl rfl ?_
  refine x_sld (i := 621) (pc' := 904) rfl rfl hL (by omega) (by omega) ?_
  refine l_call (q := 76) (i := 622) (pc' := 907) (av := [_]) (rest := psh r []) rfl rfl (by decide) lL_106 (sh76 G) rfl rfl rfl rfl rfl (psh_room r) hk hn h1 (fun r2 m2 h2 => ?_)
  obtain ⟨rfl, ⟨z, rfl⟩, h3⟩ := h2
  dsimp only [psh]
  exact x_same (i := 623) rfl (by decide) (kk m2 h3)
set_option maxRecDepth 100000 in
theorem lc_22 {G : GG} {nm : String} {b Ln : Nat} {xs : Nat → Int32} {k n : Nat} {m : Mem} {t : Int} (hL : Ln ≤ 3072) (hk : k ≤ 600000) (hn : n ≤ 7302250) (t0 : 0 ≤ t) (ht : 6 * t + 6 ≤ Ln) (hI : INV t m) (kk : ∀ m' : Mem, INV (t + 1) m' → AW G 100 600000 7302250 (ML nm) (XL b Ln xs) FW k n 1103 [some (.ref b), some (.ref (G.2.2.2 0)), some (.ref (G.2.2.2 76)), some (.int (J (6 * t)))] [] (wd G m')) : AW G 100 600000 7302250 (ML nm) (XL b Ln xs) FW k n 912 [some (.ref b), some (.ref (G.2.2.2 0)), some (.ref (G.2.2.2 76)), some (.int (J (6 * t)))] [] (wd G m) := by
  have he : t < 512 := by omega
  refine x_aload_n (i := 626) (pc' := 913) rfl rfl rfl rfl ?_
  refine x_aload_n (i := 627) (pc' := 914) rfl rfl rfl rfl ?_
  refine x_iload_n (i := 628) (pc' := 915) rfl rfl rfl rfl ?_
  refine x_iconst (i := 629) (pc' := 916) rfl rfl ?_
  refine x_iadd (i := 630) (pc' := 917) rfl rfl ?_
  refine x_sld (i := 631) (pc' := 918) rfl rfl hL (by omega) (by omega) ?_
  refine x_aload_n (i := 632) (pc' := 919) rfl rfl rfl rfl ?_
  refine x_iload_n (i := 633) (pc' := 920) rfl rfl rfl rfl ?_
  refine x_iconst (i := 634) (pc' := 921) rfl rfl ?_
  refine x_iadd (i := 635) (pc' := 922) rfl rfl ?_
  refine x_sld (i := 636) (pc' := 923) rfl rfl hL (by omega) (by omega) ?_
  refine l_call (q := 0) (i := 637) (pc' := 926) (av := [_, _]) (rest := []) rfl rfl (by decide) lL_107 (sh0 G) rfl rfl rfl rfl rfl (Nat.le_of_ble_eq_true rfl) hk hn (st_lays hI he (J_rg _) (J_rg _)) (fun r m1 h1 => ?_)
  refine x_aload_n (i := 638) (pc' := 927) rfl rfl rfl rfl ?_
  refine x_aload_n (i := 639) (pc' := 928) rfl rfl rfl rfl ?_
  refine x_iload_n (i := 640) (pc' := 929) rfl rfl rfl rfl ?_
  refine x_iconst (i := 641) (pc' := 930) rfl rfl ?_
  refine x_iadd (i := 642) (pc' := 931) rfl rfl ?_
  refine x_sld (i := 643) (pc' := 932) rfl rfl hL (by omega) (by omega) ?_
  refine x_aload_n (i := 644) (pc' := 933) rfl rfl rfl rfl ?_
  refine x_iload_n (i := 645) (pc' := 934) rfl rfl rfl rfl ?_
  refine x_iconst (i := 646) (pc' := 935) rfl rfl ?_
  refine x_iadd (i := 647) (pc' := 936) rfl rfl ?_
  refine x_sld (i := 648) (pc' := 937) rfl rfl hL (by omega) (by omega) ?_
  refine l_call (q := 76) (i := 649) (pc' := 940) (av := [_, _]) (rest := psh r []) rfl rfl (by decide) lL_110 (sh76 G) rfl rfl rfl rfl rfl (psh_room r) hk hn h1 (fun r2 m2 h2 => ?_)
  obtain ⟨rfl, ⟨z, rfl⟩, h3⟩ := h2
  dsimp only [psh]
  exact x_same (i := 650) rfl (by decide) (kk m2 h3)
set_option maxRecDepth 100000 in
theorem lc_23 {G : GG} {nm : String} {b Ln : Nat} {xs : Nat → Int32} {k n : Nat} {m : Mem} {t : Int} (hL : Ln ≤ 3072) (hk : k ≤ 600000) (hn : n ≤ 7302250) (t0 : 0 ≤ t) (ht : 6 * t + 6 ≤ Ln) (hI : INV t m) (kk : ∀ m' : Mem, INV (t + 1) m' → AW G 100 600000 7302250 (ML nm) (XL b Ln xs) FW k n 1103 [some (.ref b), some (.ref (G.2.2.2 0)), some (.ref (G.2.2.2 76)), some (.int (J (6 * t)))] [] (wd G m')) : AW G 100 600000 7302250 (ML nm) (XL b Ln xs) FW k n 945 [some (.ref b), some (.ref (G.2.2.2 0)), some (.ref (G.2.2.2 76)), some (.int (J (6 * t)))] [] (wd G m) := by
  have he : t < 512 := by omega
  refine x_aload_n (i := 653) (pc' := 946) rfl rfl rfl rfl ?_
  refine x_aload_n (i := 654) (pc' := 947) rfl rfl rfl rfl ?_
  refine x_iload_n (i := 655) (pc' := 948) rfl rfl rfl rfl ?_
  refine x_iconst (i := 656) (pc' := 949) rfl rfl ?_
  refine x_iadd (i := 657) (pc' := 950) rfl rfl ?_
  refine x_sld (i := 658) (pc' := 951) rfl rfl hL (by omega) (by omega) ?_
  refine l_call (q := 0) (i := 659) (pc' := 954) (av := [_]) (rest := []) rfl rfl (by decide) lL_111 (sh0 G) rfl rfl rfl rfl rfl (Nat.le_of_ble_eq_true rfl) hk hn (st_lay hI he (J_rg _)) (fun r m1 h1 => ?_)
  refine x_aload_n (i := 660) (pc' := 955) rfl rfl rfl rfl ?_
  refine x_aload_n (i := 661) (pc' := 956) rfl rfl rfl rfl ?_
  refine x_iload_n (i := 662) (pc' := 957) rfl rfl rfl rfl ?_
  refine x_iconst (i := 663) (pc' := 958) rfl rfl ?_
  refine x_iadd (i := 664) (pc' := 959) rfl rfl ?_
  refine x_sld (i := 665) (pc' := 960) rfl rfl hL (by omega) (by omega) ?_
  refine l_call (q := 76) (i := 666) (pc' := 963) (av := [_]) (rest := psh r []) rfl rfl (by decide) lL_114 (sh76 G) rfl rfl rfl rfl rfl (psh_room r) hk hn h1 (fun r2 m2 h2 => ?_)
  obtain ⟨rfl, ⟨z, rfl⟩, h3⟩ := h2
  dsimp only [psh]
  exact x_same (i := 667) rfl (by decide) (kk m2 h3)
set_option maxRecDepth 100000 in
theorem lc_24 {G : GG} {nm : String} {b Ln : Nat} {xs : Nat → Int32} {k n : Nat} {m : Mem} {t : Int} (hL : Ln ≤ 3072) (hk : k ≤ 600000) (hn : n ≤ 7302250) (t0 : 0 ≤ t) (ht : 6 * t + 6 ≤ Ln) (hI : INV t m) (kk : ∀ m' : Mem, INV (t + 1) m' → AW G 100 600000 7302250 (ML nm) (XL b Ln xs) FW k n 1103 [some (.ref b), some (.ref (G.2.2.2 0)), some (.ref (G.2.2.2 76)), some (.int (J (6 * t)))] [] (wd G m')) : AW G 100 600000 7302250 (ML nm) (XL b Ln xs) FW k n 968 [some (.ref b), some (.ref (G.2.2.2 0)), some (.ref (G.2.2.2 76)), some (.int (J (6 * t)))] [] (wd G m) := by
  have he : t < 512 := by omega
  refine x_aload_n (i := 670) (pc' := 969) rfl rfl rfl rfl ?_
  refine x_aload_n (i := 671) (pc' := 970) rfl rfl rfl rfl ?_
  refine x_iload_n (i := 672) (pc' := 971) rfl rfl rfl rfl ?_
  refine x_iconst (i := 673) (pc' := 972) rfl rfl ?_
  refine x_iadd (i := 674) (pc' := 973) rfl rfl ?_
  refine x_sld (i := 675) (pc' := 974) rfl rfl hL (by omega) (by omega) ?_
  refine l_call (q := 0) (i := 676) (pc' := 977) (av := [_]) (rest := []) rfl rfl (by decide) lL_115 (sh0 G) rfl rfl rfl rfl rfl (Nat.le_of_ble_eq_true rfl) hk hn (st_best hI he (J_rg _)) (fun r m1 h1 => ?_)
  refine x_aload_n (i := 677) (pc' := 978) rfl rfl rfl rfl ?_
  refine x_aload_n (i := 678) (pc' := 979) rfl rfl rfl rfl ?_
  refine x_iload_n (i := 679) (pc' := 980) rfl rfl rfl rfl ?_
  refine x_iconst (i := 680) (pc' := 981) rfl rfl ?_
  refine x_iadd (i := 681) (pc' := 982) rfl rfl ?_
  refine x_sld (i := 682) (pc' := 983) rfl rfl hL (by omega) (by omega) ?_
  refine l_call (q := 76) (i := 683) (pc' := 986) (av := [_]) (rest := psh r []) rfl rfl (by decide) lL_118 (sh76 G) rfl rfl rfl rfl rfl (psh_room r) hk hn h1 (fun r2 m2 h2 => ?_)
  obtain ⟨rfl, ⟨z, rfl⟩, h3⟩ := h2
  dsimp only [psh]
  exact x_same (i := 684) rfl (by decide) (kk m2 h3)
set_option maxRecDepth 100000 in
theorem lc_25 {G : GG} {nm : String} {b Ln : Nat} {xs : Nat → Int32} {k n : Nat} {m : Mem} {t : Int} (hL : Ln ≤ 3072) (hk : k ≤ 600000) (hn : n ≤ 7302250) (t0 : 0 ≤ t) (ht : 6 * t + 6 ≤ Ln) (hI : INV t m) (kk : ∀ m' : Mem, INV (t + 1) m' → AW G 100 600000 7302250 (ML nm) (XL b Ln xs) FW k n 1103 [some (.ref b), some (.ref (G.2.2.2 0)), some (.ref (G.2.2.2 76)), some (.int (J (6 * t)))] [] (wd G m')) : AW G 100 600000 7302250 (ML nm) (XL b Ln xs) FW k n 991 [some (.ref b), some (.ref (G.2.2.2 0)), some (.ref (G.2.2.2 76)), some (.int (J (6 * t)))] [] (wd G m) := by
  have he : t < 512 := by omega
  refine x_aload_n (i := 687) (pc' := 992) rfl rfl rfl rfl ?_
  refine l_call (q := 0) (i := 688) (pc' := 995) (av := []) (rest := []) rfl rfl (by decide) lL_119 (sh0 G) rfl rfl rfl rfl rfl (Nat.le_of_ble_eq_true rfl) hk hn (st_settles hI he) (fun r m1 h1 => ?_)
  refine x_aload_n (i := 689) (pc' := 996) rfl rfl rfl rfl ?_
  refine l_call (q := 76) (i := 690) (pc' := 999) (av := []) (rest := psh r []) rfl rfl (by decide) lL_122 (sh76 G) rfl rfl rfl rfl rfl (psh_room r) hk hn h1 (fun r2 m2 h2 => ?_)
  obtain ⟨rfl, ⟨z, rfl⟩, h3⟩ := h2
  dsimp only [psh]
  exact x_same (i := 691) rfl (by decide) (kk m2 h3)
set_option maxRecDepth 100000 in
theorem lc_26 {G : GG} {nm : String} {b Ln : Nat} {xs : Nat → Int32} {k n : Nat} {m : Mem} {t : Int} (hL : Ln ≤ 3072) (hk : k ≤ 600000) (hn : n ≤ 7302250) (t0 : 0 ≤ t) (ht : 6 * t + 6 ≤ Ln) (hI : INV t m) (kk : ∀ m' : Mem, INV (t + 1) m' → AW G 100 600000 7302250 (ML nm) (XL b Ln xs) FW k n 1103 [some (.ref b), some (.ref (G.2.2.2 0)), some (.ref (G.2.2.2 76)), some (.int (J (6 * t)))] [] (wd G m')) : AW G 100 600000 7302250 (ML nm) (XL b Ln xs) FW k n 1004 [some (.ref b), some (.ref (G.2.2.2 0)), some (.ref (G.2.2.2 76)), some (.int (J (6 * t)))] [] (wd G m) := by
  have he : t < 512 := by omega
  refine x_aload_n (i := 694) (pc' := 1005) rfl rfl rfl rfl ?_
  refine x_aload_n (i := 695) (pc' := 1006) rfl rfl rfl rfl ?_
  refine x_iload_n (i := 696) (pc' := 1007) rfl rfl rfl rfl ?_
  refine x_iconst (i := 697) (pc' := 1008) rfl rfl ?_
  refine x_iadd (i := 698) (pc' := 1009) rfl rfl ?_
  refine x_sld (i := 699) (pc' := 1010) rfl rfl hL (by omega) (by omega) ?_
  refine l_call (q := 0) (i := 700) (pc' := 1013) (av := [_]) (rest := []) rfl rfl (by decide) lL_123 (sh0 G) rfl rfl rfl rfl rfl (Nat.le_of_ble_eq_true rfl) hk hn (st_type hI he (J_rg _)) (fun r m1 h1 => ?_)
  refine x_aload_n (i := 701) (pc' := 1014) rfl rfl rfl rfl ?_
  refine x_aload_n (i := 702) (pc' := 1015) rfl rfl rfl rfl ?_
  refine x_iload_n (i := 703) (pc' := 1016) rfl rfl rfl rfl ?_
  refine x_iconst (i := 704) (pc' := 1017) rfl rfl ?_
  refine x_iadd (i := 705) (pc' := 1018) rfl rfl ?_
  refine x_sld (i := 706) (pc' := 1019) rfl rfl hL (by omega) (by omega) ?_
  refine l_call (q := 76) (i := 707) (pc' := 1022) (av := [_]) (rest := psh r []) rfl rfl (by decide) lL_126 (sh76 G) rfl rfl rfl rfl rfl (psh_room r) hk hn h1 (fun r2 m2 h2 => ?_)
  obtain ⟨rfl, ⟨z, rfl⟩, h3⟩ := h2
  dsimp only [psh]
  exact x_same (i := 708) rfl (by decide) (kk m2 h3)
set_option maxRecDepth 100000 in
theorem lc_27 {G : GG} {nm : String} {b Ln : Nat} {xs : Nat → Int32} {k n : Nat} {m : Mem} {t : Int} (hL : Ln ≤ 3072) (hk : k ≤ 600000) (hn : n ≤ 7302250) (t0 : 0 ≤ t) (ht : 6 * t + 6 ≤ Ln) (hI : INV t m) (kk : ∀ m' : Mem, INV (t + 1) m' → AW G 100 600000 7302250 (ML nm) (XL b Ln xs) FW k n 1103 [some (.ref b), some (.ref (G.2.2.2 0)), some (.ref (G.2.2.2 76)), some (.int (J (6 * t)))] [] (wd G m')) : AW G 100 600000 7302250 (ML nm) (XL b Ln xs) FW k n 1027 [some (.ref b), some (.ref (G.2.2.2 0)), some (.ref (G.2.2.2 76)), some (.int (J (6 * t)))] [] (wd G m) := by
  have he : t < 512 := by omega
  refine x_aload_n (i := 711) (pc' := 1028) rfl rfl rfl rfl ?_
  refine l_call (q := 0) (i := 712) (pc' := 1031) (av := []) (rest := []) rfl rfl (by decide) lL_127 (sh0 G) rfl rfl rfl rfl rfl (Nat.le_of_ble_eq_true rfl) hk hn (st_clear hI he) (fun r m1 h1 => ?_)
  refine x_aload_n (i := 713) (pc' := 1032) rfl rfl rfl rfl ?_
  refine l_call (q := 76) (i := 714) (pc' := 1035) (av := []) (rest := psh r []) rfl rfl (by decide) lL_130 (sh76 G) rfl rfl rfl rfl rfl (psh_room r) hk hn h1 (fun r2 m2 h2 => ?_)
  obtain ⟨rfl, ⟨z, rfl⟩, h3⟩ := h2
  dsimp only [psh]
  exact x_same (i := 715) rfl (by decide) (kk m2 h3)
set_option maxRecDepth 100000 in
theorem lc_28 {G : GG} {nm : String} {b Ln : Nat} {xs : Nat → Int32} {k n : Nat} {m : Mem} {t : Int} (hL : Ln ≤ 3072) (hk : k ≤ 600000) (hn : n ≤ 7302250) (t0 : 0 ≤ t) (ht : 6 * t + 6 ≤ Ln) (hI : INV t m) (kk : ∀ m' : Mem, INV (t + 1) m' → AW G 100 600000 7302250 (ML nm) (XL b Ln xs) FW k n 1103 [some (.ref b), some (.ref (G.2.2.2 0)), some (.ref (G.2.2.2 76)), some (.int (J (6 * t)))] [] (wd G m')) : AW G 100 600000 7302250 (ML nm) (XL b Ln xs) FW k n 1040 [some (.ref b), some (.ref (G.2.2.2 0)), some (.ref (G.2.2.2 76)), some (.int (J (6 * t)))] [] (wd G m) := by
  have he : t < 512 := by omega
  refine x_aload_n (i := 718) (pc' := 1041) rfl rfl rfl rfl ?_
  refine l_call (q := 0) (i := 719) (pc' := 1044) (av := []) (rest := []) rfl rfl (by decide) lL_131 (sh0 G) rfl rfl rfl rfl rfl (Nat.le_of_ble_eq_true rfl) hk hn (st_reads hI he) (fun r m1 h1 => ?_)
  refine x_aload_n (i := 720) (pc' := 1045) rfl rfl rfl rfl ?_
  refine l_call (q := 76) (i := 721) (pc' := 1048) (av := []) (rest := psh r []) rfl rfl (by decide) lL_134 (sh76 G) rfl rfl rfl rfl rfl (psh_room r) hk hn h1 (fun r2 m2 h2 => ?_)
  obtain ⟨rfl, ⟨z, rfl⟩, h3⟩ := h2
  dsimp only [psh]
  exact x_same (i := 722) rfl (by decide) (kk m2 h3)
set_option maxRecDepth 100000 in
theorem lc_29 {G : GG} {nm : String} {b Ln : Nat} {xs : Nat → Int32} {k n : Nat} {m : Mem} {t : Int} (hL : Ln ≤ 3072) (hk : k ≤ 600000) (hn : n ≤ 7302250) (t0 : 0 ≤ t) (ht : 6 * t + 6 ≤ Ln) (hI : INV t m) (kk : ∀ m' : Mem, INV (t + 1) m' → AW G 100 600000 7302250 (ML nm) (XL b Ln xs) FW k n 1103 [some (.ref b), some (.ref (G.2.2.2 0)), some (.ref (G.2.2.2 76)), some (.int (J (6 * t)))] [] (wd G m')) : AW G 100 600000 7302250 (ML nm) (XL b Ln xs) FW k n 1053 [some (.ref b), some (.ref (G.2.2.2 0)), some (.ref (G.2.2.2 76)), some (.int (J (6 * t)))] [] (wd G m) := by
  have he : t < 512 := by omega
  refine x_aload_n (i := 725) (pc' := 1054) rfl rfl rfl rfl ?_
  refine l_call (q := 0) (i := 726) (pc' := 1057) (av := []) (rest := []) rfl rfl (by decide) lL_135 (sh0 G) rfl rfl rfl rfl rfl (Nat.le_of_ble_eq_true rfl) hk hn (st_back hI he) (fun r m1 h1 => ?_)
  refine x_aload_n (i := 727) (pc' := 1058) rfl rfl rfl rfl ?_
  refine l_call (q := 76) (i := 728) (pc' := 1061) (av := []) (rest := psh r []) rfl rfl (by decide) lL_138 (sh76 G) rfl rfl rfl rfl rfl (psh_room r) hk hn h1 (fun r2 m2 h2 => ?_)
  obtain ⟨rfl, ⟨z, rfl⟩, h3⟩ := h2
  dsimp only [psh]
  exact x_same (i := 729) rfl (by decide) (kk m2 h3)
set_option maxRecDepth 100000 in
theorem lc_30 {G : GG} {nm : String} {b Ln : Nat} {xs : Nat → Int32} {k n : Nat} {m : Mem} {t : Int} (hL : Ln ≤ 3072) (hk : k ≤ 600000) (hn : n ≤ 7302250) (t0 : 0 ≤ t) (ht : 6 * t + 6 ≤ Ln) (hI : INV t m) (kk : ∀ m' : Mem, INV (t + 1) m' → AW G 100 600000 7302250 (ML nm) (XL b Ln xs) FW k n 1103 [some (.ref b), some (.ref (G.2.2.2 0)), some (.ref (G.2.2.2 76)), some (.int (J (6 * t)))] [] (wd G m')) : AW G 100 600000 7302250 (ML nm) (XL b Ln xs) FW k n 1066 [some (.ref b), some (.ref (G.2.2.2 0)), some (.ref (G.2.2.2 76)), some (.int (J (6 * t)))] [] (wd G m) := by
  have he : t < 512 := by omega
  refine x_aload_n (i := 732) (pc' := 1067) rfl rfl rfl rfl ?_
  refine x_aload_n (i := 733) (pc' := 1068) rfl rfl rfl rfl ?_
  refine x_iload_n (i := 734) (pc' := 1069) rfl rfl rfl rfl ?_
  refine x_iconst (i := 735) (pc' := 1070) rfl rfl ?_
  refine x_iadd (i := 736) (pc' := 1071) rfl rfl ?_
  refine x_sld (i := 737) (pc' := 1072) rfl rfl hL (by omega) (by omega) ?_
  refine l_call (q := 0) (i := 738) (pc' := 1075) (av := [_]) (rest := []) rfl rfl (by decide) lL_139 (sh0 G) rfl rfl rfl rfl rfl (Nat.le_of_ble_eq_true rfl) hk hn (st_told hI he (J_rg _)) (fun r m1 h1 => ?_)
  refine x_aload_n (i := 739) (pc' := 1076) rfl rfl rfl rfl ?_
  refine x_aload_n (i := 740) (pc' := 1077) rfl rfl rfl rfl ?_
  refine x_iload_n (i := 741) (pc' := 1078) rfl rfl rfl rfl ?_
  refine x_iconst (i := 742) (pc' := 1079) rfl rfl ?_
  refine x_iadd (i := 743) (pc' := 1080) rfl rfl ?_
  refine x_sld (i := 744) (pc' := 1081) rfl rfl hL (by omega) (by omega) ?_
  refine l_call (q := 76) (i := 745) (pc' := 1084) (av := [_]) (rest := psh r []) rfl rfl (by decide) lL_142 (sh76 G) rfl rfl rfl rfl rfl (psh_room r) hk hn h1 (fun r2 m2 h2 => ?_)
  obtain ⟨rfl, ⟨z, rfl⟩, h3⟩ := h2
  dsimp only [psh]
  exact x_same (i := 746) rfl (by decide) (kk m2 h3)
set_option maxRecDepth 100000 in
theorem lc_31 {G : GG} {nm : String} {b Ln : Nat} {xs : Nat → Int32} {k n : Nat} {m : Mem} {t : Int} (hL : Ln ≤ 3072) (hk : k ≤ 600000) (hn : n ≤ 7302250) (t0 : 0 ≤ t) (ht : 6 * t + 6 ≤ Ln) (hI : INV t m) (kk : ∀ m' : Mem, INV (t + 1) m' → AW G 100 600000 7302250 (ML nm) (XL b Ln xs) FW k n 1103 [some (.ref b), some (.ref (G.2.2.2 0)), some (.ref (G.2.2.2 76)), some (.int (J (6 * t)))] [] (wd G m')) : AW G 100 600000 7302250 (ML nm) (XL b Ln xs) FW k n 1089 [some (.ref b), some (.ref (G.2.2.2 0)), some (.ref (G.2.2.2 76)), some (.int (J (6 * t)))] [] (wd G m) := by
  have he : t < 512 := by omega
  refine x_aload_n (i := 749) (pc' := 1090) rfl rfl rfl rfl ?_
  refine l_call (q := 0) (i := 750) (pc' := 1093) (av := []) (rest := []) rfl rfl (by decide) lL_143 (sh0 G) rfl rfl rfl rfl rfl (Nat.le_of_ble_eq_true rfl) hk hn (st_digest hI he) (fun r m1 h1 => ?_)
  refine x_aload_n (i := 751) (pc' := 1094) rfl rfl rfl rfl ?_
  refine l_call (q := 76) (i := 752) (pc' := 1097) (av := []) (rest := psh r []) rfl rfl (by decide) lL_147 (sh76 G) rfl rfl rfl rfl rfl (psh_room r) hk hn h1 (fun r2 m2 h2 => ?_)
  obtain ⟨rfl, ⟨z, rfl⟩, h3⟩ := h2
  dsimp only [psh]
  refine x_lsame (i := 753) (pc' := 1098) rfl rfl ?_
  exact x_ifeq (i := 754) (pc' := 1101) (tgt := 1103) rfl rfl (by decide) rg_0 (fun _ => kk m2 h3) (fun c => absurd rfl c)
