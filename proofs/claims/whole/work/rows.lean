section
-- ===== PART A: goes FIRST, ahead of the names: the tables' words, and 'selects' of the private methods out of them =====
/-- a private method of a class that the tables say can be made, by its rows of tables_1 -/
def lw_okq (q : MethodName × Nat) : Prop := (q.1.cls ≠ "java/lang/invoke/MethodHandle" ∧ q.1.cls ≠ "java/lang/invoke/VarHandle") ∧ Cond.instantiable q.1.cls q.2 ∈ tables_1 ∧ Cond.privateMethod q.1 ∈ tables_1 ∧ Cond.instanceMethod q.1 ∈ tables_1
theorem lw_p0 : lw_okq (⟨"GestureBook$Lexicon", "setTrait", "(III)V"⟩, 3) := ⟨⟨by decide +kernel, by decide +kernel⟩, List.mem_of_getElem? (i := 33) (by decide +kernel), List.mem_of_getElem? (i := 315) (by decide +kernel), List.mem_of_getElem? (i := 316) (by decide +kernel)⟩
theorem lw_p1 : lw_okq (⟨"GestureBook$Lexicon", "appendAsked", "()I"⟩, 3) := ⟨⟨by decide +kernel, by decide +kernel⟩, List.mem_of_getElem? (i := 33) (by decide +kernel), List.mem_of_getElem? (i := 319) (by decide +kernel), List.mem_of_getElem? (i := 320) (by decide +kernel)⟩
theorem lw_p2 : lw_okq (⟨"GestureBook$Lexicon", "hasEqual", "(I)Z"⟩, 3) := ⟨⟨by decide +kernel, by decide +kernel⟩, List.mem_of_getElem? (i := 33) (by decide +kernel), List.mem_of_getElem? (i := 323) (by decide +kernel), List.mem_of_getElem? (i := 324) (by decide +kernel)⟩
theorem lw_p3 : lw_okq (⟨"GestureBook", "undoable", "(I)I"⟩, 10) := ⟨⟨by decide +kernel, by decide +kernel⟩, List.mem_of_getElem? (i := 19) (by decide +kernel), List.mem_of_getElem? (i := 335) (by decide +kernel), List.mem_of_getElem? (i := 336) (by decide +kernel)⟩
theorem lw_p4 : lw_okq (⟨"GestureBook", "counted", "(I)I"⟩, 10) := ⟨⟨by decide +kernel, by decide +kernel⟩, List.mem_of_getElem? (i := 19) (by decide +kernel), List.mem_of_getElem? (i := 346) (by decide +kernel), List.mem_of_getElem? (i := 347) (by decide +kernel)⟩
theorem lw_p5 : lw_okq (⟨"GestureBook$Sentence", "cell", "(II)I"⟩, 2) := ⟨⟨by decide +kernel, by decide +kernel⟩, List.mem_of_getElem? (i := 53) (by decide +kernel), List.mem_of_getElem? (i := 379) (by decide +kernel), List.mem_of_getElem? (i := 380) (by decide +kernel)⟩
theorem lw_p6 : lw_okq (⟨"GestureBook$Lexicon", "matchesAsked", "(I)Z"⟩, 3) := ⟨⟨by decide +kernel, by decide +kernel⟩, List.mem_of_getElem? (i := 33) (by decide +kernel), List.mem_of_getElem? (i := 460) (by decide +kernel), List.mem_of_getElem? (i := 461) (by decide +kernel)⟩
theorem lw_p7 : lw_okq (⟨"GestureBook$Clusters", "join", "(III)V"⟩, 2) := ⟨⟨by decide +kernel, by decide +kernel⟩, List.mem_of_getElem? (i := 221) (by decide +kernel), List.mem_of_getElem? (i := 502) (by decide +kernel), List.mem_of_getElem? (i := 503) (by decide +kernel)⟩
theorem lw_p8 : lw_okq (⟨"GestureBook$Sentence", "put", "(IIII)V"⟩, 2) := ⟨⟨by decide +kernel, by decide +kernel⟩, List.mem_of_getElem? (i := 53) (by decide +kernel), List.mem_of_getElem? (i := 566) (by decide +kernel), List.mem_of_getElem? (i := 567) (by decide +kernel)⟩
theorem lw_p9 : lw_okq (⟨"GestureBook$Sentence", "moveRows", "(III)V"⟩, 2) := ⟨⟨by decide +kernel, by decide +kernel⟩, List.mem_of_getElem? (i := 53) (by decide +kernel), List.mem_of_getElem? (i := 583) (by decide +kernel), List.mem_of_getElem? (i := 584) (by decide +kernel)⟩
theorem lw_p10 : lw_okq (⟨"GestureBook$Meaning", "interpretWord", "(LGestureBook$Sentence;II)V"⟩, 7) := ⟨⟨by decide +kernel, by decide +kernel⟩, List.mem_of_getElem? (i := 135) (by decide +kernel), List.mem_of_getElem? (i := 628) (by decide +kernel), List.mem_of_getElem? (i := 629) (by decide +kernel)⟩
theorem lw_p11 : lw_okq (⟨"GestureBook$Meaning", "setThing", "(II)V"⟩, 7) := ⟨⟨by decide +kernel, by decide +kernel⟩, List.mem_of_getElem? (i := 135) (by decide +kernel), List.mem_of_getElem? (i := 635) (by decide +kernel), List.mem_of_getElem? (i := 636) (by decide +kernel)⟩
theorem lw_p12 : lw_okq (⟨"GestureBook", "wordProperty", "(II)I"⟩, 10) := ⟨⟨by decide +kernel, by decide +kernel⟩, List.mem_of_getElem? (i := 19) (by decide +kernel), List.mem_of_getElem? (i := 646) (by decide +kernel), List.mem_of_getElem? (i := 647) (by decide +kernel)⟩
theorem lw_p13 : lw_okq (⟨"GestureBook", "examineSentence", "()V"⟩, 10) := ⟨⟨by decide +kernel, by decide +kernel⟩, List.mem_of_getElem? (i := 19) (by decide +kernel), List.mem_of_getElem? (i := 663) (by decide +kernel), List.mem_of_getElem? (i := 664) (by decide +kernel)⟩
theorem lw_p14 : lw_okq (⟨"GestureBook$Path", "add", "(I)V"⟩, 2) := ⟨⟨by decide +kernel, by decide +kernel⟩, List.mem_of_getElem? (i := 185) (by decide +kernel), List.mem_of_getElem? (i := 678) (by decide +kernel), List.mem_of_getElem? (i := 679) (by decide +kernel)⟩
theorem lw_p15 : lw_okq (⟨"GestureBook", "sentenceProperty", "(I)I"⟩, 10) := ⟨⟨by decide +kernel, by decide +kernel⟩, List.mem_of_getElem? (i := 19) (by decide +kernel), List.mem_of_getElem? (i := 684) (by decide +kernel), List.mem_of_getElem? (i := 685) (by decide +kernel)⟩
def lw_privs_1 : List (MethodName × Nat) := [(⟨"GestureBook$Lexicon", "setTrait", "(III)V"⟩, 3), (⟨"GestureBook$Lexicon", "appendAsked", "()I"⟩, 3), (⟨"GestureBook$Lexicon", "hasEqual", "(I)Z"⟩, 3), (⟨"GestureBook", "undoable", "(I)I"⟩, 10), (⟨"GestureBook", "counted", "(I)I"⟩, 10), (⟨"GestureBook$Sentence", "cell", "(II)I"⟩, 2), (⟨"GestureBook$Lexicon", "matchesAsked", "(I)Z"⟩, 3), (⟨"GestureBook$Clusters", "join", "(III)V"⟩, 2), (⟨"GestureBook$Sentence", "put", "(IIII)V"⟩, 2), (⟨"GestureBook$Sentence", "moveRows", "(III)V"⟩, 2), (⟨"GestureBook$Meaning", "interpretWord", "(LGestureBook$Sentence;II)V"⟩, 7), (⟨"GestureBook$Meaning", "setThing", "(II)V"⟩, 7), (⟨"GestureBook", "wordProperty", "(II)I"⟩, 10), (⟨"GestureBook", "examineSentence", "()V"⟩, 10), (⟨"GestureBook$Path", "add", "(I)V"⟩, 2), (⟨"GestureBook", "sentenceProperty", "(I)I"⟩, 10)]
theorem lw_r1 : ∀ q ∈ lw_privs_1, lw_okq q := List.forall_mem_cons.mpr ⟨lw_p0, List.forall_mem_cons.mpr ⟨lw_p1, List.forall_mem_cons.mpr ⟨lw_p2, List.forall_mem_cons.mpr ⟨lw_p3, List.forall_mem_cons.mpr ⟨lw_p4, List.forall_mem_cons.mpr ⟨lw_p5, List.forall_mem_cons.mpr ⟨lw_p6, List.forall_mem_cons.mpr ⟨lw_p7, List.forall_mem_cons.mpr ⟨lw_p8, List.forall_mem_cons.mpr ⟨lw_p9, List.forall_mem_cons.mpr ⟨lw_p10, List.forall_mem_cons.mpr ⟨lw_p11, List.forall_mem_cons.mpr ⟨lw_p12, List.forall_mem_cons.mpr ⟨lw_p13, List.forall_mem_cons.mpr ⟨lw_p14, List.forall_mem_cons.mpr ⟨lw_p15, fun _ h => absurd h List.not_mem_nil⟩⟩⟩⟩⟩⟩⟩⟩⟩⟩⟩⟩⟩⟩⟩⟩
theorem lw_p16 : lw_okq (⟨"GestureBook", "findBestArrangement", "()V"⟩, 10) := ⟨⟨by decide +kernel, by decide +kernel⟩, List.mem_of_getElem? (i := 19) (by decide +kernel), List.mem_of_getElem? (i := 714) (by decide +kernel), List.mem_of_getElem? (i := 715) (by decide +kernel)⟩
theorem lw_p17 : lw_okq (⟨"GestureBook$Arranger", "lengthTo", "(I)I"⟩, 4) := ⟨⟨by decide +kernel, by decide +kernel⟩, List.mem_of_getElem? (i := 200) (by decide +kernel), List.mem_of_getElem? (i := 730) (by decide +kernel), List.mem_of_getElem? (i := 731) (by decide +kernel)⟩
theorem lw_p18 : lw_okq (⟨"GestureBook$Script", "skipBlanks", "()V"⟩, 7) := ⟨⟨by decide +kernel, by decide +kernel⟩, List.mem_of_getElem? (i := 105) (by decide +kernel), List.mem_of_getElem? (i := 765) (by decide +kernel), List.mem_of_getElem? (i := 766) (by decide +kernel)⟩
theorem lw_p19 : lw_okq (⟨"GestureBook$Script", "parseOrder", "(I)Z"⟩, 7) := ⟨⟨by decide +kernel, by decide +kernel⟩, List.mem_of_getElem? (i := 105) (by decide +kernel), List.mem_of_getElem? (i := 769) (by decide +kernel), List.mem_of_getElem? (i := 770) (by decide +kernel)⟩
theorem lw_p20 : lw_okq (⟨"GestureBook$Script", "current", "()I"⟩, 7) := ⟨⟨by decide +kernel, by decide +kernel⟩, List.mem_of_getElem? (i := 105) (by decide +kernel), List.mem_of_getElem? (i := 773) (by decide +kernel), List.mem_of_getElem? (i := 774) (by decide +kernel)⟩
theorem lw_p21 : lw_okq (⟨"GestureBook$Script", "isAtDigit", "()Z"⟩, 7) := ⟨⟨by decide +kernel, by decide +kernel⟩, List.mem_of_getElem? (i := 105) (by decide +kernel), List.mem_of_getElem? (i := 780) (by decide +kernel), List.mem_of_getElem? (i := 781) (by decide +kernel)⟩
theorem lw_p22 : lw_okq (⟨"GestureBook$Script", "parseNumber", "(II)Z"⟩, 7) := ⟨⟨by decide +kernel, by decide +kernel⟩, List.mem_of_getElem? (i := 105) (by decide +kernel), List.mem_of_getElem? (i := 784) (by decide +kernel), List.mem_of_getElem? (i := 785) (by decide +kernel)⟩
theorem lw_p23 : lw_okq (⟨"GestureBook", "execute", "(I)I"⟩, 10) := ⟨⟨by decide +kernel, by decide +kernel⟩, List.mem_of_getElem? (i := 19) (by decide +kernel), List.mem_of_getElem? (i := 788) (by decide +kernel), List.mem_of_getElem? (i := 789) (by decide +kernel)⟩
theorem lw_p24 : lw_okq (⟨"GestureBook", "figure", "(I)I"⟩, 10) := ⟨⟨by decide +kernel, by decide +kernel⟩, List.mem_of_getElem? (i := 19) (by decide +kernel), List.mem_of_getElem? (i := 826) (by decide +kernel), List.mem_of_getElem? (i := 827) (by decide +kernel)⟩
theorem lw_p25 : lw_okq (⟨"GestureBook", "withSigns", "(J)J"⟩, 10) := ⟨⟨by decide +kernel, by decide +kernel⟩, List.mem_of_getElem? (i := 19) (by decide +kernel), List.mem_of_getElem? (i := 843) (by decide +kernel), List.mem_of_getElem? (i := 844) (by decide +kernel)⟩
theorem lw_p26 : lw_okq (⟨"GestureBook", "withWords", "(J)J"⟩, 10) := ⟨⟨by decide +kernel, by decide +kernel⟩, List.mem_of_getElem? (i := 19) (by decide +kernel), List.mem_of_getElem? (i := 847) (by decide +kernel), List.mem_of_getElem? (i := 848) (by decide +kernel)⟩
theorem lw_p27 : lw_okq (⟨"GestureBookModel", "canSign", "(IIIII)I"⟩, 13) := ⟨⟨by decide +kernel, by decide +kernel⟩, List.mem_of_getElem? (i := 851) (by decide +kernel), List.mem_of_getElem? (i := 901) (by decide +kernel), List.mem_of_getElem? (i := 902) (by decide +kernel)⟩
theorem lw_p28 : lw_okq (⟨"GestureBookModel", "signOf", "(IIIII)I"⟩, 13) := ⟨⟨by decide +kernel, by decide +kernel⟩, List.mem_of_getElem? (i := 851) (by decide +kernel), List.mem_of_getElem? (i := 916) (by decide +kernel), List.mem_of_getElem? (i := 917) (by decide +kernel)⟩
theorem lw_p29 : lw_okq (⟨"GestureBookModel", "part", "(II)I"⟩, 13) := ⟨⟨by decide +kernel, by decide +kernel⟩, List.mem_of_getElem? (i := 851) (by decide +kernel), List.mem_of_getElem? (i := 920) (by decide +kernel), List.mem_of_getElem? (i := 921) (by decide +kernel)⟩
theorem lw_p30 : lw_okq (⟨"GestureBookModel", "refuses", "(I)I"⟩, 13) := ⟨⟨by decide +kernel, by decide +kernel⟩, List.mem_of_getElem? (i := 851) (by decide +kernel), List.mem_of_getElem? (i := 924) (by decide +kernel), List.mem_of_getElem? (i := 925) (by decide +kernel)⟩
theorem lw_p31 : lw_okq (⟨"GestureBookModel", "minds", "()V"⟩, 13) := ⟨⟨by decide +kernel, by decide +kernel⟩, List.mem_of_getElem? (i := 851) (by decide +kernel), List.mem_of_getElem? (i := 928) (by decide +kernel), List.mem_of_getElem? (i := 929) (by decide +kernel)⟩
def lw_privs_2 : List (MethodName × Nat) := [(⟨"GestureBook", "findBestArrangement", "()V"⟩, 10), (⟨"GestureBook$Arranger", "lengthTo", "(I)I"⟩, 4), (⟨"GestureBook$Script", "skipBlanks", "()V"⟩, 7), (⟨"GestureBook$Script", "parseOrder", "(I)Z"⟩, 7), (⟨"GestureBook$Script", "current", "()I"⟩, 7), (⟨"GestureBook$Script", "isAtDigit", "()Z"⟩, 7), (⟨"GestureBook$Script", "parseNumber", "(II)Z"⟩, 7), (⟨"GestureBook", "execute", "(I)I"⟩, 10), (⟨"GestureBook", "figure", "(I)I"⟩, 10), (⟨"GestureBook", "withSigns", "(J)J"⟩, 10), (⟨"GestureBook", "withWords", "(J)J"⟩, 10), (⟨"GestureBookModel", "canSign", "(IIIII)I"⟩, 13), (⟨"GestureBookModel", "signOf", "(IIIII)I"⟩, 13), (⟨"GestureBookModel", "part", "(II)I"⟩, 13), (⟨"GestureBookModel", "refuses", "(I)I"⟩, 13), (⟨"GestureBookModel", "minds", "()V"⟩, 13)]
theorem lw_r2 : ∀ q ∈ lw_privs_2, lw_okq q := List.forall_mem_cons.mpr ⟨lw_p16, List.forall_mem_cons.mpr ⟨lw_p17, List.forall_mem_cons.mpr ⟨lw_p18, List.forall_mem_cons.mpr ⟨lw_p19, List.forall_mem_cons.mpr ⟨lw_p20, List.forall_mem_cons.mpr ⟨lw_p21, List.forall_mem_cons.mpr ⟨lw_p22, List.forall_mem_cons.mpr ⟨lw_p23, List.forall_mem_cons.mpr ⟨lw_p24, List.forall_mem_cons.mpr ⟨lw_p25, List.forall_mem_cons.mpr ⟨lw_p26, List.forall_mem_cons.mpr ⟨lw_p27, List.forall_mem_cons.mpr ⟨lw_p28, List.forall_mem_cons.mpr ⟨lw_p29, List.forall_mem_cons.mpr ⟨lw_p30, List.forall_mem_cons.mpr ⟨lw_p31, fun _ h => absurd h List.not_mem_nil⟩⟩⟩⟩⟩⟩⟩⟩⟩⟩⟩⟩⟩⟩⟩⟩
theorem lw_p32 : lw_okq (⟨"GestureBookModel", "copy", "(II)V"⟩, 13) := ⟨⟨by decide +kernel, by decide +kernel⟩, List.mem_of_getElem? (i := 851) (by decide +kernel), List.mem_of_getElem? (i := 932) (by decide +kernel), List.mem_of_getElem? (i := 933) (by decide +kernel)⟩
theorem lw_p33 : lw_okq (⟨"GestureBookModel", "adds", "(IIIII)I"⟩, 13) := ⟨⟨by decide +kernel, by decide +kernel⟩, List.mem_of_getElem? (i := 851) (by decide +kernel), List.mem_of_getElem? (i := 936) (by decide +kernel), List.mem_of_getElem? (i := 937) (by decide +kernel)⟩
theorem lw_p34 : lw_okq (⟨"GestureBookModel", "isSign", "(I)Z"⟩, 13) := ⟨⟨by decide +kernel, by decide +kernel⟩, List.mem_of_getElem? (i := 851) (by decide +kernel), List.mem_of_getElem? (i := 944) (by decide +kernel), List.mem_of_getElem? (i := 945) (by decide +kernel)⟩
theorem lw_p35 : lw_okq (⟨"GestureBookModel", "canDrop", "(I)I"⟩, 13) := ⟨⟨by decide +kernel, by decide +kernel⟩, List.mem_of_getElem? (i := 851) (by decide +kernel), List.mem_of_getElem? (i := 953) (by decide +kernel), List.mem_of_getElem? (i := 954) (by decide +kernel)⟩
theorem lw_p36 : lw_okq (⟨"GestureBookModel", "wordsWith", "(I)I"⟩, 13) := ⟨⟨by decide +kernel, by decide +kernel⟩, List.mem_of_getElem? (i := 851) (by decide +kernel), List.mem_of_getElem? (i := 957) (by decide +kernel), List.mem_of_getElem? (i := 958) (by decide +kernel)⟩
theorem lw_p37 : lw_okq (⟨"GestureBookModel", "goes", "(I)I"⟩, 13) := ⟨⟨by decide +kernel, by decide +kernel⟩, List.mem_of_getElem? (i := 851) (by decide +kernel), List.mem_of_getElem? (i := 961) (by decide +kernel), List.mem_of_getElem? (i := 962) (by decide +kernel)⟩
theorem lw_p38 : lw_okq (⟨"GestureBookModel", "next", "()I"⟩, 13) := ⟨⟨by decide +kernel, by decide +kernel⟩, List.mem_of_getElem? (i := 851) (by decide +kernel), List.mem_of_getElem? (i := 979) (by decide +kernel), List.mem_of_getElem? (i := 980) (by decide +kernel)⟩
theorem lw_p39 : lw_okq (⟨"GestureBookModel", "between", "(II)I"⟩, 13) := ⟨⟨by decide +kernel, by decide +kernel⟩, List.mem_of_getElem? (i := 851) (by decide +kernel), List.mem_of_getElem? (i := 996) (by decide +kernel), List.mem_of_getElem? (i := 997) (by decide +kernel)⟩
theorem lw_p40 : lw_okq (⟨"GestureBookModel", "apartOf", "(IIIII)I"⟩, 13) := ⟨⟨by decide +kernel, by decide +kernel⟩, List.mem_of_getElem? (i := 851) (by decide +kernel), List.mem_of_getElem? (i := 1000) (by decide +kernel), List.mem_of_getElem? (i := 1001) (by decide +kernel)⟩
theorem lw_p41 : lw_okq (⟨"GestureBookModel", "isSo", "(III)Z"⟩, 13) := ⟨⟨by decide +kernel, by decide +kernel⟩, List.mem_of_getElem? (i := 851) (by decide +kernel), List.mem_of_getElem? (i := 1021) (by decide +kernel), List.mem_of_getElem? (i := 1022) (by decide +kernel)⟩
theorem lw_p42 : lw_okq (⟨"GestureBookModel", "nearOf", "(II)I"⟩, 13) := ⟨⟨by decide +kernel, by decide +kernel⟩, List.mem_of_getElem? (i := 851) (by decide +kernel), List.mem_of_getElem? (i := 1030) (by decide +kernel), List.mem_of_getElem? (i := 1031) (by decide +kernel)⟩
theorem lw_p43 : lw_okq (⟨"GestureBookModel", "group", "(II)I"⟩, 13) := ⟨⟨by decide +kernel, by decide +kernel⟩, List.mem_of_getElem? (i := 851) (by decide +kernel), List.mem_of_getElem? (i := 1049) (by decide +kernel), List.mem_of_getElem? (i := 1050) (by decide +kernel)⟩
theorem lw_p44 : lw_okq (⟨"GestureBookModel", "twinsBy", "(I)I"⟩, 13) := ⟨⟨by decide +kernel, by decide +kernel⟩, List.mem_of_getElem? (i := 851) (by decide +kernel), List.mem_of_getElem? (i := 1057) (by decide +kernel), List.mem_of_getElem? (i := 1058) (by decide +kernel)⟩
theorem lw_p45 : lw_okq (⟨"GestureBookModel", "unlike", "(II)I"⟩, 13) := ⟨⟨by decide +kernel, by decide +kernel⟩, List.mem_of_getElem? (i := 851) (by decide +kernel), List.mem_of_getElem? (i := 1061) (by decide +kernel), List.mem_of_getElem? (i := 1062) (by decide +kernel)⟩
theorem lw_p46 : lw_okq (⟨"GestureBookModel", "leastEnough", "()I"⟩, 13) := ⟨⟨by decide +kernel, by decide +kernel⟩, List.mem_of_getElem? (i := 851) (by decide +kernel), List.mem_of_getElem? (i := 1070) (by decide +kernel), List.mem_of_getElem? (i := 1071) (by decide +kernel)⟩
theorem lw_p47 : lw_okq (⟨"GestureBookModel", "isEnough", "(I)Z"⟩, 13) := ⟨⟨by decide +kernel, by decide +kernel⟩, List.mem_of_getElem? (i := 851) (by decide +kernel), List.mem_of_getElem? (i := 1074) (by decide +kernel), List.mem_of_getElem? (i := 1075) (by decide +kernel)⟩
def lw_privs_3 : List (MethodName × Nat) := [(⟨"GestureBookModel", "copy", "(II)V"⟩, 13), (⟨"GestureBookModel", "adds", "(IIIII)I"⟩, 13), (⟨"GestureBookModel", "isSign", "(I)Z"⟩, 13), (⟨"GestureBookModel", "canDrop", "(I)I"⟩, 13), (⟨"GestureBookModel", "wordsWith", "(I)I"⟩, 13), (⟨"GestureBookModel", "goes", "(I)I"⟩, 13), (⟨"GestureBookModel", "next", "()I"⟩, 13), (⟨"GestureBookModel", "between", "(II)I"⟩, 13), (⟨"GestureBookModel", "apartOf", "(IIIII)I"⟩, 13), (⟨"GestureBookModel", "isSo", "(III)Z"⟩, 13), (⟨"GestureBookModel", "nearOf", "(II)I"⟩, 13), (⟨"GestureBookModel", "group", "(II)I"⟩, 13), (⟨"GestureBookModel", "twinsBy", "(I)I"⟩, 13), (⟨"GestureBookModel", "unlike", "(II)I"⟩, 13), (⟨"GestureBookModel", "leastEnough", "()I"⟩, 13), (⟨"GestureBookModel", "isEnough", "(I)Z"⟩, 13)]
theorem lw_r3 : ∀ q ∈ lw_privs_3, lw_okq q := List.forall_mem_cons.mpr ⟨lw_p32, List.forall_mem_cons.mpr ⟨lw_p33, List.forall_mem_cons.mpr ⟨lw_p34, List.forall_mem_cons.mpr ⟨lw_p35, List.forall_mem_cons.mpr ⟨lw_p36, List.forall_mem_cons.mpr ⟨lw_p37, List.forall_mem_cons.mpr ⟨lw_p38, List.forall_mem_cons.mpr ⟨lw_p39, List.forall_mem_cons.mpr ⟨lw_p40, List.forall_mem_cons.mpr ⟨lw_p41, List.forall_mem_cons.mpr ⟨lw_p42, List.forall_mem_cons.mpr ⟨lw_p43, List.forall_mem_cons.mpr ⟨lw_p44, List.forall_mem_cons.mpr ⟨lw_p45, List.forall_mem_cons.mpr ⟨lw_p46, List.forall_mem_cons.mpr ⟨lw_p47, fun _ h => absurd h List.not_mem_nil⟩⟩⟩⟩⟩⟩⟩⟩⟩⟩⟩⟩⟩⟩⟩⟩
theorem lw_p48 : lw_okq (⟨"GestureBookModel", "canSay", "(III)I"⟩, 13) := ⟨⟨by decide +kernel, by decide +kernel⟩, List.mem_of_getElem? (i := 851) (by decide +kernel), List.mem_of_getElem? (i := 1086) (by decide +kernel), List.mem_of_getElem? (i := 1087) (by decide +kernel)⟩
theorem lw_p49 : lw_okq (⟨"GestureBookModel", "says", "(III)I"⟩, 13) := ⟨⟨by decide +kernel, by decide +kernel⟩, List.mem_of_getElem? (i := 851) (by decide +kernel), List.mem_of_getElem? (i := 1090) (by decide +kernel), List.mem_of_getElem? (i := 1091) (by decide +kernel)⟩
theorem lw_p50 : lw_okq (⟨"GestureBookModel", "isWord", "(I)Z"⟩, 13) := ⟨⟨by decide +kernel, by decide +kernel⟩, List.mem_of_getElem? (i := 851) (by decide +kernel), List.mem_of_getElem? (i := 1098) (by decide +kernel), List.mem_of_getElem? (i := 1099) (by decide +kernel)⟩
theorem lw_p51 : lw_okq (⟨"GestureBookModel", "swaps", "(II)V"⟩, 13) := ⟨⟨by decide +kernel, by decide +kernel⟩, List.mem_of_getElem? (i := 851) (by decide +kernel), List.mem_of_getElem? (i := 1106) (by decide +kernel), List.mem_of_getElem? (i := 1107) (by decide +kernel)⟩
theorem lw_p52 : lw_okq (⟨"GestureBookModel", "said", "(II)I"⟩, 13) := ⟨⟨by decide +kernel, by decide +kernel⟩, List.mem_of_getElem? (i := 851) (by decide +kernel), List.mem_of_getElem? (i := 1110) (by decide +kernel), List.mem_of_getElem? (i := 1111) (by decide +kernel)⟩
theorem lw_p53 : lw_okq (⟨"GestureBookModel", "clearsAll", "()I"⟩, 13) := ⟨⟨by decide +kernel, by decide +kernel⟩, List.mem_of_getElem? (i := 851) (by decide +kernel), List.mem_of_getElem? (i := 1118) (by decide +kernel), List.mem_of_getElem? (i := 1119) (by decide +kernel)⟩
theorem lw_p54 : lw_okq (⟨"GestureBookModel", "wordIs", "(II)I"⟩, 13) := ⟨⟨by decide +kernel, by decide +kernel⟩, List.mem_of_getElem? (i := 851) (by decide +kernel), List.mem_of_getElem? (i := 1127) (by decide +kernel), List.mem_of_getElem? (i := 1128) (by decide +kernel)⟩
theorem lw_p55 : lw_okq (⟨"GestureBookModel", "sortOf", "(I)I"⟩, 13) := ⟨⟨by decide +kernel, by decide +kernel⟩, List.mem_of_getElem? (i := 851) (by decide +kernel), List.mem_of_getElem? (i := 1131) (by decide +kernel), List.mem_of_getElem? (i := 1132) (by decide +kernel)⟩
theorem lw_p56 : lw_okq (⟨"GestureBookModel", "clauseOf", "(I)I"⟩, 13) := ⟨⟨by decide +kernel, by decide +kernel⟩, List.mem_of_getElem? (i := 851) (by decide +kernel), List.mem_of_getElem? (i := 1135) (by decide +kernel), List.mem_of_getElem? (i := 1136) (by decide +kernel)⟩
theorem lw_p57 : lw_okq (⟨"GestureBookModel", "isVain", "(I)Z"⟩, 13) := ⟨⟨by decide +kernel, by decide +kernel⟩, List.mem_of_getElem? (i := 851) (by decide +kernel), List.mem_of_getElem? (i := 1139) (by decide +kernel), List.mem_of_getElem? (i := 1140) (by decide +kernel)⟩
theorem lw_p58 : lw_okq (⟨"GestureBookModel", "meant", "(II)I"⟩, 13) := ⟨⟨by decide +kernel, by decide +kernel⟩, List.mem_of_getElem? (i := 851) (by decide +kernel), List.mem_of_getElem? (i := 1143) (by decide +kernel), List.mem_of_getElem? (i := 1144) (by decide +kernel)⟩
theorem lw_p59 : lw_okq (⟨"GestureBookModel", "atSpot", "(II)I"⟩, 13) := ⟨⟨by decide +kernel, by decide +kernel⟩, List.mem_of_getElem? (i := 851) (by decide +kernel), List.mem_of_getElem? (i := 1147) (by decide +kernel), List.mem_of_getElem? (i := 1148) (by decide +kernel)⟩
theorem lw_p60 : lw_okq (⟨"GestureBookModel", "clauses", "()I"⟩, 13) := ⟨⟨by decide +kernel, by decide +kernel⟩, List.mem_of_getElem? (i := 851) (by decide +kernel), List.mem_of_getElem? (i := 1162) (by decide +kernel), List.mem_of_getElem? (i := 1163) (by decide +kernel)⟩
theorem lw_p61 : lw_okq (⟨"GestureBookModel", "vain", "()I"⟩, 13) := ⟨⟨by decide +kernel, by decide +kernel⟩, List.mem_of_getElem? (i := 851) (by decide +kernel), List.mem_of_getElem? (i := 1166) (by decide +kernel), List.mem_of_getElem? (i := 1167) (by decide +kernel)⟩
theorem lw_p62 : lw_okq (⟨"GestureBookModel", "swapsOfAll", "()I"⟩, 13) := ⟨⟨by decide +kernel, by decide +kernel⟩, List.mem_of_getElem? (i := 851) (by decide +kernel), List.mem_of_getElem? (i := 1170) (by decide +kernel), List.mem_of_getElem? (i := 1171) (by decide +kernel)⟩
theorem lw_p63 : lw_okq (⟨"GestureBookModel", "rank", "(I)I"⟩, 13) := ⟨⟨by decide +kernel, by decide +kernel⟩, List.mem_of_getElem? (i := 851) (by decide +kernel), List.mem_of_getElem? (i := 1174) (by decide +kernel), List.mem_of_getElem? (i := 1175) (by decide +kernel)⟩
def lw_privs_4 : List (MethodName × Nat) := [(⟨"GestureBookModel", "canSay", "(III)I"⟩, 13), (⟨"GestureBookModel", "says", "(III)I"⟩, 13), (⟨"GestureBookModel", "isWord", "(I)Z"⟩, 13), (⟨"GestureBookModel", "swaps", "(II)V"⟩, 13), (⟨"GestureBookModel", "said", "(II)I"⟩, 13), (⟨"GestureBookModel", "clearsAll", "()I"⟩, 13), (⟨"GestureBookModel", "wordIs", "(II)I"⟩, 13), (⟨"GestureBookModel", "sortOf", "(I)I"⟩, 13), (⟨"GestureBookModel", "clauseOf", "(I)I"⟩, 13), (⟨"GestureBookModel", "isVain", "(I)Z"⟩, 13), (⟨"GestureBookModel", "meant", "(II)I"⟩, 13), (⟨"GestureBookModel", "atSpot", "(II)I"⟩, 13), (⟨"GestureBookModel", "clauses", "()I"⟩, 13), (⟨"GestureBookModel", "vain", "()I"⟩, 13), (⟨"GestureBookModel", "swapsOfAll", "()I"⟩, 13), (⟨"GestureBookModel", "rank", "(I)I"⟩, 13)]
theorem lw_r4 : ∀ q ∈ lw_privs_4, lw_okq q := List.forall_mem_cons.mpr ⟨lw_p48, List.forall_mem_cons.mpr ⟨lw_p49, List.forall_mem_cons.mpr ⟨lw_p50, List.forall_mem_cons.mpr ⟨lw_p51, List.forall_mem_cons.mpr ⟨lw_p52, List.forall_mem_cons.mpr ⟨lw_p53, List.forall_mem_cons.mpr ⟨lw_p54, List.forall_mem_cons.mpr ⟨lw_p55, List.forall_mem_cons.mpr ⟨lw_p56, List.forall_mem_cons.mpr ⟨lw_p57, List.forall_mem_cons.mpr ⟨lw_p58, List.forall_mem_cons.mpr ⟨lw_p59, List.forall_mem_cons.mpr ⟨lw_p60, List.forall_mem_cons.mpr ⟨lw_p61, List.forall_mem_cons.mpr ⟨lw_p62, List.forall_mem_cons.mpr ⟨lw_p63, fun _ h => absurd h List.not_mem_nil⟩⟩⟩⟩⟩⟩⟩⟩⟩⟩⟩⟩⟩⟩⟩⟩
theorem lw_p64 : lw_okq (⟨"GestureBookModel", "moved", "()I"⟩, 13) := ⟨⟨by decide +kernel, by decide +kernel⟩, List.mem_of_getElem? (i := 851) (by decide +kernel), List.mem_of_getElem? (i := 1178) (by decide +kernel), List.mem_of_getElem? (i := 1179) (by decide +kernel)⟩
theorem lw_p65 : lw_okq (⟨"GestureBookModel", "ordered", "(I)I"⟩, 13) := ⟨⟨by decide +kernel, by decide +kernel⟩, List.mem_of_getElem? (i := 851) (by decide +kernel), List.mem_of_getElem? (i := 1182) (by decide +kernel), List.mem_of_getElem? (i := 1183) (by decide +kernel)⟩
theorem lw_p66 : lw_okq (⟨"GestureBookModel", "wayNow", "()I"⟩, 13) := ⟨⟨by decide +kernel, by decide +kernel⟩, List.mem_of_getElem? (i := 851) (by decide +kernel), List.mem_of_getElem? (i := 1186) (by decide +kernel), List.mem_of_getElem? (i := 1187) (by decide +kernel)⟩
theorem lw_p67 : lw_okq (⟨"GestureBookModel", "way", "()I"⟩, 13) := ⟨⟨by decide +kernel, by decide +kernel⟩, List.mem_of_getElem? (i := 851) (by decide +kernel), List.mem_of_getElem? (i := 1190) (by decide +kernel), List.mem_of_getElem? (i := 1191) (by decide +kernel)⟩
theorem lw_p68 : lw_okq (⟨"GestureBookModel", "spots", "()I"⟩, 13) := ⟨⟨by decide +kernel, by decide +kernel⟩, List.mem_of_getElem? (i := 851) (by decide +kernel), List.mem_of_getElem? (i := 1194) (by decide +kernel), List.mem_of_getElem? (i := 1195) (by decide +kernel)⟩
theorem lw_p69 : lw_okq (⟨"GestureBookModel", "spotAt", "(I)I"⟩, 13) := ⟨⟨by decide +kernel, by decide +kernel⟩, List.mem_of_getElem? (i := 851) (by decide +kernel), List.mem_of_getElem? (i := 1202) (by decide +kernel), List.mem_of_getElem? (i := 1203) (by decide +kernel)⟩
theorem lw_p70 : lw_okq (⟨"GestureBookModel", "bestWay", "()I"⟩, 13) := ⟨⟨by decide +kernel, by decide +kernel⟩, List.mem_of_getElem? (i := 851) (by decide +kernel), List.mem_of_getElem? (i := 1214) (by decide +kernel), List.mem_of_getElem? (i := 1215) (by decide +kernel)⟩
theorem lw_p71 : lw_okq (⟨"GestureBookModel", "tries", "(I)V"⟩, 13) := ⟨⟨by decide +kernel, by decide +kernel⟩, List.mem_of_getElem? (i := 851) (by decide +kernel), List.mem_of_getElem? (i := 1218) (by decide +kernel), List.mem_of_getElem? (i := 1219) (by decide +kernel)⟩
theorem lw_p72 : lw_okq (⟨"GestureBookModel", "readsAll", "()Z"⟩, 13) := ⟨⟨by decide +kernel, by decide +kernel⟩, List.mem_of_getElem? (i := 851) (by decide +kernel), List.mem_of_getElem? (i := 1239) (by decide +kernel), List.mem_of_getElem? (i := 1240) (by decide +kernel)⟩
theorem lw_p73 : lw_okq (⟨"GestureBookModel", "blanks", "()V"⟩, 13) := ⟨⟨by decide +kernel, by decide +kernel⟩, List.mem_of_getElem? (i := 851) (by decide +kernel), List.mem_of_getElem? (i := 1243) (by decide +kernel), List.mem_of_getElem? (i := 1244) (by decide +kernel)⟩
theorem lw_p74 : lw_okq (⟨"GestureBookModel", "byteHere", "()I"⟩, 13) := ⟨⟨by decide +kernel, by decide +kernel⟩, List.mem_of_getElem? (i := 851) (by decide +kernel), List.mem_of_getElem? (i := 1247) (by decide +kernel), List.mem_of_getElem? (i := 1248) (by decide +kernel)⟩
theorem lw_p75 : lw_okq (⟨"GestureBookModel", "readsOrder", "()Z"⟩, 13) := ⟨⟨by decide +kernel, by decide +kernel⟩, List.mem_of_getElem? (i := 851) (by decide +kernel), List.mem_of_getElem? (i := 1251) (by decide +kernel), List.mem_of_getElem? (i := 1252) (by decide +kernel)⟩
theorem lw_p76 : lw_okq (⟨"GestureBookModel", "isFigure", "()Z"⟩, 13) := ⟨⟨by decide +kernel, by decide +kernel⟩, List.mem_of_getElem? (i := 851) (by decide +kernel), List.mem_of_getElem? (i := 1258) (by decide +kernel), List.mem_of_getElem? (i := 1259) (by decide +kernel)⟩
theorem lw_p77 : lw_okq (⟨"GestureBookModel", "does", "(I)Z"⟩, 13) := ⟨⟨by decide +kernel, by decide +kernel⟩, List.mem_of_getElem? (i := 851) (by decide +kernel), List.mem_of_getElem? (i := 1264) (by decide +kernel), List.mem_of_getElem? (i := 1265) (by decide +kernel)⟩
theorem lw_p78 : lw_okq (⟨"GestureBookModel", "laysAll", "(I)Z"⟩, 13) := ⟨⟨by decide +kernel, by decide +kernel⟩, List.mem_of_getElem? (i := 851) (by decide +kernel), List.mem_of_getElem? (i := 1268) (by decide +kernel), List.mem_of_getElem? (i := 1269) (by decide +kernel)⟩
theorem lw_p79 : lw_okq (⟨"GestureBookModel", "tells", "(I)I"⟩, 13) := ⟨⟨by decide +kernel, by decide +kernel⟩, List.mem_of_getElem? (i := 851) (by decide +kernel), List.mem_of_getElem? (i := 1281) (by decide +kernel), List.mem_of_getElem? (i := 1282) (by decide +kernel)⟩
def lw_privs_5 : List (MethodName × Nat) := [(⟨"GestureBookModel", "moved", "()I"⟩, 13), (⟨"GestureBookModel", "ordered", "(I)I"⟩, 13), (⟨"GestureBookModel", "wayNow", "()I"⟩, 13), (⟨"GestureBookModel", "way", "()I"⟩, 13), (⟨"GestureBookModel", "spots", "()I"⟩, 13), (⟨"GestureBookModel", "spotAt", "(I)I"⟩, 13), (⟨"GestureBookModel", "bestWay", "()I"⟩, 13), (⟨"GestureBookModel", "tries", "(I)V"⟩, 13), (⟨"GestureBookModel", "readsAll", "()Z"⟩, 13), (⟨"GestureBookModel", "blanks", "()V"⟩, 13), (⟨"GestureBookModel", "byteHere", "()I"⟩, 13), (⟨"GestureBookModel", "readsOrder", "()Z"⟩, 13), (⟨"GestureBookModel", "isFigure", "()Z"⟩, 13), (⟨"GestureBookModel", "does", "(I)Z"⟩, 13), (⟨"GestureBookModel", "laysAll", "(I)Z"⟩, 13), (⟨"GestureBookModel", "tells", "(I)I"⟩, 13)]
theorem lw_r5 : ∀ q ∈ lw_privs_5, lw_okq q := List.forall_mem_cons.mpr ⟨lw_p64, List.forall_mem_cons.mpr ⟨lw_p65, List.forall_mem_cons.mpr ⟨lw_p66, List.forall_mem_cons.mpr ⟨lw_p67, List.forall_mem_cons.mpr ⟨lw_p68, List.forall_mem_cons.mpr ⟨lw_p69, List.forall_mem_cons.mpr ⟨lw_p70, List.forall_mem_cons.mpr ⟨lw_p71, List.forall_mem_cons.mpr ⟨lw_p72, List.forall_mem_cons.mpr ⟨lw_p73, List.forall_mem_cons.mpr ⟨lw_p74, List.forall_mem_cons.mpr ⟨lw_p75, List.forall_mem_cons.mpr ⟨lw_p76, List.forall_mem_cons.mpr ⟨lw_p77, List.forall_mem_cons.mpr ⟨lw_p78, List.forall_mem_cons.mpr ⟨lw_p79, fun _ h => absurd h List.not_mem_nil⟩⟩⟩⟩⟩⟩⟩⟩⟩⟩⟩⟩⟩⟩⟩⟩
def lw_privs : List (MethodName × Nat) := lw_privs_1 ++ (lw_privs_2 ++ (lw_privs_3 ++ (lw_privs_4 ++ (lw_privs_5))))
def lw_tbl : List Cond := k2_sels lw_privs ++ tables_1
theorem lw_privs_ok : ∀ q ∈ lw_privs, lw_okq q := by
  show ∀ q ∈ lw_privs_1 ++ (lw_privs_2 ++ (lw_privs_3 ++ (lw_privs_4 ++ (lw_privs_5)))), lw_okq q
  exact List.forall_mem_append.mpr ⟨lw_r1, List.forall_mem_append.mpr ⟨lw_r2, List.forall_mem_append.mpr ⟨lw_r3, List.forall_mem_append.mpr ⟨lw_r4, lw_r5⟩⟩⟩⟩
end
section
def RX0 : String := "GestureBook$Arranger"
def TX0 : u_T := fun k => match k with
  | 0 => ("GestureBook$Arranger", "steps", "[I", true)
  | 1 => ("GestureBook$Arranger", "trial", "[I", true)
  | 2 => ("GestureBook$Arranger", "found", "[I", true)
  | _ => ("GestureBook$Arranger", "least", "I", false)
def tyX0 : Nat → FieldType := fun k => match k with
  | 0 => .array .int
  | 1 => .array .int
  | 2 => .array .int
  | _ => .int
theorem nmX0 : ∀ a, a < 4 → ∀ b, b < 4 → a ≠ b → (TX0 a).2.1 ≠ (TX0 b).2.1 := by decide +kernel
theorem tyX0_ok : ∀ k, k < 4 → parseFieldDescriptor (TX0 k).2.2.1 = some (tyX0 k) := by decide +kernel
abbrev cX0_init : ByteArray := prog_2_method_1_code
def yX0_init : MethodName := ⟨RX0, "<init>", "()V"⟩
abbrev cX0_arrange : ByteArray := prog_2_method_2_code
def yX0_arrange : MethodName := ⟨RX0, "arrange", "(LGestureBook$Path;)V"⟩
abbrev cX0_placeFrom : ByteArray := prog_2_method_3_code
def yX0_placeFrom : MethodName := ⟨RX0, "placeFrom", "(LGestureBook$Arranger;III)V"⟩
abbrev cX0_lengthTo : ByteArray := prog_2_method_4_code
def yX0_lengthTo : MethodName := ⟨RX0, "lengthTo", "(I)I"⟩
def RX1 : String := "GestureBook$Clusters"
def TX1 : u_T := fun k => match k with
  | 0 => ("GestureBook$Clusters", "labels", "[I", true)
  | _ => ("GestureBook$Clusters", "sizes", "[I", true)
def tyX1 : Nat → FieldType := fun k => match k with
  | 0 => .array .int
  | _ => .array .int
theorem nmX1 : ∀ a, a < 2 → ∀ b, b < 2 → a ≠ b → (TX1 a).2.1 ≠ (TX1 b).2.1 := by decide +kernel
theorem tyX1_ok : ∀ k, k < 2 → parseFieldDescriptor (TX1 k).2.2.1 = some (tyX1 k) := by decide +kernel
abbrev cX1_init : ByteArray := prog_3_method_1_code
def yX1_init : MethodName := ⟨RX1, "<init>", "()V"⟩
abbrev cX1_find : ByteArray := prog_3_method_2_code
def yX1_find : MethodName := ⟨RX1, "find", "(LGestureBook$Lexicon;I)V"⟩
abbrev cX1_join : ByteArray := prog_3_method_3_code
def yX1_join : MethodName := ⟨RX1, "join", "(III)V"⟩
abbrev cX1_number : ByteArray := prog_3_method_4_code
def yX1_number : MethodName := ⟨RX1, "number", "()I"⟩
abbrev cX1_greatest : ByteArray := prog_3_method_5_code
def yX1_greatest : MethodName := ⟨RX1, "greatest", "()I"⟩
def RX2 : String := "GestureBook$Contrasts"
def TX2 : u_T := fun k => match k with
  | _ => ("GestureBook$Contrasts", "pairs", "[I", true)
def tyX2 : Nat → FieldType := fun k => match k with
  | _ => .array .int
theorem nmX2 : ∀ a, a < 1 → ∀ b, b < 1 → a ≠ b → (TX2 a).2.1 ≠ (TX2 b).2.1 := by decide +kernel
theorem tyX2_ok : ∀ k, k < 1 → parseFieldDescriptor (TX2 k).2.2.1 = some (tyX2 k) := by decide +kernel
abbrev cX2_init : ByteArray := prog_4_method_1_code
def yX2_init : MethodName := ⟨RX2, "<init>", "()V"⟩
abbrev cX2_compare : ByteArray := prog_4_method_2_code
def yX2_compare : MethodName := ⟨RX2, "compare", "(LGestureBook$Lexicon;)V"⟩
abbrev cX2_minimalPairs : ByteArray := prog_4_method_3_code
def yX2_minimalPairs : MethodName := ⟨RX2, "minimalPairs", "(I)I"⟩
abbrev cX2_isSufficient : ByteArray := prog_4_method_4_code
def yX2_isSufficient : MethodName := ⟨RX2, "isSufficient", "(I)Z"⟩
abbrev cX2_leastSufficient : ByteArray := prog_4_method_5_code
def yX2_leastSufficient : MethodName := ⟨RX2, "leastSufficient", "()I"⟩
def RX3 : String := "GestureBook$Lexicon"
def TX3 : u_T := fun k => match k with
  | 0 => ("GestureBook$Lexicon", "traits", "[I", true)
  | 1 => ("GestureBook$Lexicon", "weights", "[I", true)
  | _ => ("GestureBook$Lexicon", "count", "I", false)
def tyX3 : Nat → FieldType := fun k => match k with
  | 0 => .array .int
  | 1 => .array .int
  | _ => .int
theorem nmX3 : ∀ a, a < 3 → ∀ b, b < 3 → a ≠ b → (TX3 a).2.1 ≠ (TX3 b).2.1 := by decide +kernel
theorem tyX3_ok : ∀ k, k < 3 → parseFieldDescriptor (TX3 k).2.2.1 = some (tyX3 k) := by decide +kernel
abbrev cX3_init : ByteArray := prog_5_method_1_code
def yX3_init : MethodName := ⟨RX3, "<init>", "()V"⟩
abbrev cX3_copyFrom : ByteArray := prog_5_method_2_code
def yX3_copyFrom : MethodName := ⟨RX3, "copyFrom", "(LGestureBook$Lexicon;)V"⟩
abbrev cX3_holds : ByteArray := prog_5_method_3_code
def yX3_holds : MethodName := ⟨RX3, "holds", "(I)Z"⟩
abbrev cX3_trait : ByteArray := prog_5_method_4_code
def yX3_trait : MethodName := ⟨RX3, "trait", "(II)I"⟩
abbrev cX3_setTrait : ByteArray := prog_5_method_5_code
def yX3_setTrait : MethodName := ⟨RX3, "setTrait", "(III)V"⟩
abbrev cX3_weightOf : ByteArray := prog_5_method_6_code
def yX3_weightOf : MethodName := ⟨RX3, "weightOf", "(I)I"⟩
abbrev cX3_setWeight : ByteArray := prog_5_method_7_code
def yX3_setWeight : MethodName := ⟨RX3, "setWeight", "(II)I"⟩
abbrev cX3_ask : ByteArray := prog_5_method_8_code
def yX3_ask : MethodName := ⟨RX3, "ask", "(IIII)V"⟩
abbrev cX3_addSign : ByteArray := prog_5_method_9_code
def yX3_addSign : MethodName := ⟨RX3, "addSign", "(IIIII)I"⟩
abbrev cX3_appendAsked : ByteArray := prog_5_method_10_code
def yX3_appendAsked : MethodName := ⟨RX3, "appendAsked", "()I"⟩
abbrev cX3_hasEqual : ByteArray := prog_5_method_11_code
def yX3_hasEqual : MethodName := ⟨RX3, "hasEqual", "(I)Z"⟩
abbrev cX3_change : ByteArray := prog_5_method_12_code
def yX3_change : MethodName := ⟨RX3, "change", "(III)I"⟩
abbrev cX3_remove : ByteArray := prog_5_method_13_code
def yX3_remove : MethodName := ⟨RX3, "remove", "(I)I"⟩
abbrev cX3_addRandom : ByteArray := prog_5_method_14_code
def yX3_addRandom : MethodName := ⟨RX3, "addRandom", "(II)I"⟩
abbrev cX3_countOfSort : ByteArray := prog_5_method_15_code
def yX3_countOfSort : MethodName := ⟨RX3, "countOfSort", "(I)I"⟩
abbrev cX3_differingParts : ByteArray := prog_5_method_16_code
def yX3_differingParts : MethodName := ⟨RX3, "differingParts", "(II)I"⟩
abbrev cX3_gap : ByteArray := prog_5_method_17_code
def yX3_gap : MethodName := ⟨RX3, "gap", "(III)I"⟩
abbrev cX3_faceGap : ByteArray := prog_5_method_18_code
def yX3_faceGap : MethodName := ⟨RX3, "faceGap", "(II)I"⟩
abbrev cX3_distance : ByteArray := prog_5_method_19_code
def yX3_distance : MethodName := ⟨RX3, "distance", "(II)I"⟩
abbrev cX3_matches : ByteArray := prog_5_method_20_code
def yX3_matches : MethodName := ⟨RX3, "matches", "()I"⟩
abbrev cX3_matchesAsked : ByteArray := prog_5_method_21_code
def yX3_matchesAsked : MethodName := ⟨RX3, "matchesAsked", "(I)Z"⟩
abbrev cX3_neighbours : ByteArray := prog_5_method_22_code
def yX3_neighbours : MethodName := ⟨RX3, "neighbours", "(II)I"⟩
abbrev cX3_closest : ByteArray := prog_5_method_23_code
def yX3_closest : MethodName := ⟨RX3, "closest", "()I"⟩
abbrev cX3_extremePair : ByteArray := prog_5_method_24_code
def yX3_extremePair : MethodName := ⟨RX3, "extremePair", "(Z)I"⟩
def RX4 : String := "GestureBook$Meaning"
def TX4 : u_T := fun k => match k with
  | 0 => ("GestureBook$Meaning", "things", "[I", true)
  | 1 => ("GestureBook$Meaning", "clause", "[I", true)
  | 2 => ("GestureBook$Meaning", "vain", "[Z", true)
  | 3 => ("GestureBook$Meaning", "first", "[I", true)
  | 4 => ("GestureBook$Meaning", "second", "[I", true)
  | 5 => ("GestureBook$Meaning", "clauses", "I", false)
  | _ => ("GestureBook$Meaning", "vainWords", "I", false)
def tyX4 : Nat → FieldType := fun k => match k with
  | 0 => .array .int
  | 1 => .array .int
  | 2 => .array .boolean
  | 3 => .array .int
  | 4 => .array .int
  | 5 => .int
  | _ => .int
theorem nmX4 : ∀ a, a < 7 → ∀ b, b < 7 → a ≠ b → (TX4 a).2.1 ≠ (TX4 b).2.1 := by decide +kernel
theorem tyX4_ok : ∀ k, k < 7 → parseFieldDescriptor (TX4 k).2.2.1 = some (tyX4 k) := by decide +kernel
abbrev cX4_init : ByteArray := prog_6_method_1_code
def yX4_init : MethodName := ⟨RX4, "<init>", "()V"⟩
abbrev cX4_interpret : ByteArray := prog_6_method_2_code
def yX4_interpret : MethodName := ⟨RX4, "interpret", "(LGestureBook$State;I)V"⟩
abbrev cX4_interpretWord : ByteArray := prog_6_method_3_code
def yX4_interpretWord : MethodName := ⟨RX4, "interpretWord", "(LGestureBook$Sentence;II)V"⟩
abbrev cX4_thingAt : ByteArray := prog_6_method_4_code
def yX4_thingAt : MethodName := ⟨RX4, "thingAt", "(I)I"⟩
abbrev cX4_setThing : ByteArray := prog_6_method_5_code
def yX4_setThing : MethodName := ⟨RX4, "setThing", "(II)V"⟩
def RX5 : String := "GestureBook$Past"
def TX5 : u_T := fun k => match k with
  | 0 => ("GestureBook$Past", "slots", "[LGestureBook$State;", true)
  | 1 => ("GestureBook$Past", "next", "I", false)
  | _ => ("GestureBook$Past", "count", "I", false)
def tyX5 : Nat → FieldType := fun k => match k with
  | 0 => .array (.object "GestureBook$State")
  | 1 => .int
  | _ => .int
theorem nmX5 : ∀ a, a < 3 → ∀ b, b < 3 → a ≠ b → (TX5 a).2.1 ≠ (TX5 b).2.1 := by decide +kernel
theorem tyX5_ok : ∀ k, k < 3 → parseFieldDescriptor (TX5 k).2.2.1 = some (tyX5 k) := by decide +kernel
abbrev cX5_init : ByteArray := prog_7_method_1_code
def yX5_init : MethodName := ⟨RX5, "<init>", "()V"⟩
abbrev cX5_stage : ByteArray := prog_7_method_2_code
def yX5_stage : MethodName := ⟨RX5, "stage", "(LGestureBook$State;)V"⟩
abbrev cX5_unstage : ByteArray := prog_7_method_3_code
def yX5_unstage : MethodName := ⟨RX5, "unstage", "(LGestureBook$State;)V"⟩
abbrev cX5_keepStaged : ByteArray := prog_7_method_4_code
def yX5_keepStaged : MethodName := ⟨RX5, "keepStaged", "()V"⟩
abbrev cX5_restore : ByteArray := prog_7_method_5_code
def yX5_restore : MethodName := ⟨RX5, "restore", "(LGestureBook$State;)I"⟩
def RX6 : String := "GestureBook$Path"
def TX6 : u_T := fun k => match k with
  | 0 => ("GestureBook$Path", "spots", "[I", true)
  | _ => ("GestureBook$Path", "count", "I", false)
def tyX6 : Nat → FieldType := fun k => match k with
  | 0 => .array .int
  | _ => .int
theorem nmX6 : ∀ a, a < 2 → ∀ b, b < 2 → a ≠ b → (TX6 a).2.1 ≠ (TX6 b).2.1 := by decide +kernel
theorem tyX6_ok : ∀ k, k < 2 → parseFieldDescriptor (TX6 k).2.2.1 = some (tyX6 k) := by decide +kernel
abbrev cX6_init : ByteArray := prog_8_method_1_code
def yX6_init : MethodName := ⟨RX6, "<init>", "()V"⟩
abbrev cX6_follow : ByteArray := prog_8_method_2_code
def yX6_follow : MethodName := ⟨RX6, "follow", "(LGestureBook$Sentence;)V"⟩
abbrev cX6_add : ByteArray := prog_8_method_3_code
def yX6_add : MethodName := ⟨RX6, "add", "(I)V"⟩
abbrev cX6_lengthWith : ByteArray := prog_8_method_4_code
def yX6_lengthWith : MethodName := ⟨RX6, "lengthWith", "([I)I"⟩
abbrev cX6_setOfSpots : ByteArray := prog_8_method_5_code
def yX6_setOfSpots : MethodName := ⟨RX6, "setOfSpots", "()I"⟩
def RX7 : String := "GestureBook$Script"
def TX7 : u_T := fun k => match k with
  | 0 => ("GestureBook$Script", "bytes", "[I", true)
  | 1 => ("GestureBook$Script", "length", "I", false)
  | 2 => ("GestureBook$Script", "place", "I", false)
  | 3 => ("GestureBook$Script", "letters", "[I", true)
  | 4 => ("GestureBook$Script", "counts", "[I", true)
  | 5 => ("GestureBook$Script", "values", "[I", true)
  | _ => ("GestureBook$Script", "orders", "I", false)
def tyX7 : Nat → FieldType := fun k => match k with
  | 0 => .array .int
  | 1 => .int
  | 2 => .int
  | 3 => .array .int
  | 4 => .array .int
  | 5 => .array .int
  | _ => .int
theorem nmX7 : ∀ a, a < 7 → ∀ b, b < 7 → a ≠ b → (TX7 a).2.1 ≠ (TX7 b).2.1 := by decide +kernel
theorem tyX7_ok : ∀ k, k < 7 → parseFieldDescriptor (TX7 k).2.2.1 = some (tyX7 k) := by decide +kernel
abbrev cX7_init : ByteArray := prog_9_method_1_code
def yX7_init : MethodName := ⟨RX7, "<init>", "()V"⟩
abbrev cX7_append : ByteArray := prog_9_method_2_code
def yX7_append : MethodName := ⟨RX7, "append", "(I)I"⟩
abbrev cX7_empty : ByteArray := prog_9_method_3_code
def yX7_empty : MethodName := ⟨RX7, "empty", "()I"⟩
abbrev cX7_letter : ByteArray := prog_9_method_4_code
def yX7_letter : MethodName := ⟨RX7, "letter", "(I)I"⟩
abbrev cX7_numbers : ByteArray := prog_9_method_5_code
def yX7_numbers : MethodName := ⟨RX7, "numbers", "(I)I"⟩
abbrev cX7_number : ByteArray := prog_9_method_6_code
def yX7_number : MethodName := ⟨RX7, "number", "(II)I"⟩
abbrev cX7_parse : ByteArray := prog_9_method_7_code
def yX7_parse : MethodName := ⟨RX7, "parse", "()I"⟩
abbrev cX7_skipBlanks : ByteArray := prog_9_method_8_code
def yX7_skipBlanks : MethodName := ⟨RX7, "skipBlanks", "()V"⟩
abbrev cX7_current : ByteArray := prog_9_method_9_code
def yX7_current : MethodName := ⟨RX7, "current", "()I"⟩
abbrev cX7_isAtDigit : ByteArray := prog_9_method_10_code
def yX7_isAtDigit : MethodName := ⟨RX7, "isAtDigit", "()Z"⟩
abbrev cX7_parseOrder : ByteArray := prog_9_method_11_code
def yX7_parseOrder : MethodName := ⟨RX7, "parseOrder", "(I)Z"⟩
abbrev cX7_parseNumber : ByteArray := prog_9_method_12_code
def yX7_parseNumber : MethodName := ⟨RX7, "parseNumber", "(II)Z"⟩
abbrev cX7_mostNumbers : ByteArray := prog_9_method_13_code
def yX7_mostNumbers : MethodName := ⟨RX7, "mostNumbers", "(I)I"⟩
def RX8 : String := "GestureBook$Sentence"
def TX8 : u_T := fun k => match k with
  | 0 => ("GestureBook$Sentence", "cells", "[I", true)
  | _ => ("GestureBook$Sentence", "count", "I", false)
def tyX8 : Nat → FieldType := fun k => match k with
  | 0 => .array .int
  | _ => .int
theorem nmX8 : ∀ a, a < 2 → ∀ b, b < 2 → a ≠ b → (TX8 a).2.1 ≠ (TX8 b).2.1 := by decide +kernel
theorem tyX8_ok : ∀ k, k < 2 → parseFieldDescriptor (TX8 k).2.2.1 = some (tyX8 k) := by decide +kernel
abbrev cX8_init : ByteArray := prog_10_method_1_code
def yX8_init : MethodName := ⟨RX8, "<init>", "()V"⟩
abbrev cX8_copyFrom : ByteArray := prog_10_method_2_code
def yX8_copyFrom : MethodName := ⟨RX8, "copyFrom", "(LGestureBook$Sentence;)V"⟩
abbrev cX8_holds : ByteArray := prog_10_method_3_code
def yX8_holds : MethodName := ⟨RX8, "holds", "(I)Z"⟩
abbrev cX8_signIn : ByteArray := prog_10_method_4_code
def yX8_signIn : MethodName := ⟨RX8, "signIn", "(I)I"⟩
abbrev cX8_from : ByteArray := prog_10_method_5_code
def yX8_from : MethodName := ⟨RX8, "from", "(I)I"⟩
abbrev cX8_to : ByteArray := prog_10_method_6_code
def yX8_to : MethodName := ⟨RX8, "to", "(I)I"⟩
abbrev cX8_cell : ByteArray := prog_10_method_7_code
def yX8_cell : MethodName := ⟨RX8, "cell", "(II)I"⟩
abbrev cX8_countOf : ByteArray := prog_10_method_8_code
def yX8_countOf : MethodName := ⟨RX8, "countOf", "(I)I"⟩
abbrev cX8_renumberAbove : ByteArray := prog_10_method_9_code
def yX8_renumberAbove : MethodName := ⟨RX8, "renumberAbove", "(I)V"⟩
abbrev cX8_append : ByteArray := prog_10_method_10_code
def yX8_append : MethodName := ⟨RX8, "append", "(III)I"⟩
abbrev cX8_put : ByteArray := prog_10_method_11_code
def yX8_put : MethodName := ⟨RX8, "put", "(IIII)V"⟩
abbrev cX8_remove : ByteArray := prog_10_method_12_code
def yX8_remove : MethodName := ⟨RX8, "remove", "(I)I"⟩
abbrev cX8_move : ByteArray := prog_10_method_13_code
def yX8_move : MethodName := ⟨RX8, "move", "(II)I"⟩
abbrev cX8_moveRows : ByteArray := prog_10_method_14_code
def yX8_moveRows : MethodName := ⟨RX8, "moveRows", "(III)V"⟩
abbrev cX8_removeAll : ByteArray := prog_10_method_15_code
def yX8_removeAll : MethodName := ⟨RX8, "removeAll", "()I"⟩
def RX9 : String := "GestureBook$State"
def TX9 : u_T := fun k => match k with
  | 0 => ("GestureBook$State", "lexicon", "LGestureBook$Lexicon;", true)
  | 1 => ("GestureBook$State", "sentence", "LGestureBook$Sentence;", true)
  | _ => ("GestureBook$State", "positions", "[I", true)
def tyX9 : Nat → FieldType := fun k => match k with
  | 0 => .object "GestureBook$Lexicon"
  | 1 => .object "GestureBook$Sentence"
  | _ => .array .int
theorem nmX9 : ∀ a, a < 3 → ∀ b, b < 3 → a ≠ b → (TX9 a).2.1 ≠ (TX9 b).2.1 := by decide +kernel
theorem tyX9_ok : ∀ k, k < 3 → parseFieldDescriptor (TX9 k).2.2.1 = some (tyX9 k) := by decide +kernel
abbrev cX9_init : ByteArray := prog_11_method_1_code
def yX9_init : MethodName := ⟨RX9, "<init>", "()V"⟩
abbrev cX9_copyFrom : ByteArray := prog_11_method_2_code
def yX9_copyFrom : MethodName := ⟨RX9, "copyFrom", "(LGestureBook$State;)V"⟩
abbrev cX9_signProperty : ByteArray := prog_11_method_3_code
def yX9_signProperty : MethodName := ⟨RX9, "signProperty", "(II)I"⟩
abbrev cX9_sortOfWord : ByteArray := prog_11_method_4_code
def yX9_sortOfWord : MethodName := ⟨RX9, "sortOfWord", "(I)I"⟩
abbrev cX9_removeSign : ByteArray := prog_11_method_5_code
def yX9_removeSign : MethodName := ⟨RX9, "removeSign", "(I)I"⟩
abbrev cX9_addWord : ByteArray := prog_11_method_6_code
def yX9_addWord : MethodName := ⟨RX9, "addWord", "(III)I"⟩
abbrev cX9_layOne : ByteArray := prog_11_method_7_code
def yX9_layOne : MethodName := ⟨RX9, "layOne", "(II)I"⟩
abbrev cX9_layAll : ByteArray := prog_11_method_8_code
def yX9_layAll : MethodName := ⟨RX9, "layAll", "(LGestureBook$Script;I)I"⟩
def RX10 : String := "GestureBook$WordOrder"
def TX10 : u_T := fun k => match k with
  | 0 => ("GestureBook$WordOrder", "swaps", "I", false)
  | _ => ("GestureBook$WordOrder", "moves", "I", false)
def tyX10 : Nat → FieldType := fun k => match k with
  | 0 => .int
  | _ => .int
theorem nmX10 : ∀ a, a < 2 → ∀ b, b < 2 → a ≠ b → (TX10 a).2.1 ≠ (TX10 b).2.1 := by decide +kernel
theorem tyX10_ok : ∀ k, k < 2 → parseFieldDescriptor (TX10 k).2.2.1 = some (tyX10 k) := by decide +kernel
abbrev cX10_init : ByteArray := prog_12_method_1_code
def yX10_init : MethodName := ⟨RX10, "<init>", "()V"⟩
abbrev cX10_check : ByteArray := prog_12_method_2_code
def yX10_check : MethodName := ⟨RX10, "check", "(LGestureBook$State;)V"⟩
def RX11 : String := "GestureBook"
def TX11 : u_T := fun k => match k with
  | 0 => ("GestureBook", "now", "LGestureBook$State;", true)
  | 1 => ("GestureBook", "past", "LGestureBook$Past;", true)
  | 2 => ("GestureBook", "script", "LGestureBook$Script;", true)
  | 3 => ("GestureBook", "meaning", "LGestureBook$Meaning;", true)
  | 4 => ("GestureBook", "wordOrder", "LGestureBook$WordOrder;", true)
  | 5 => ("GestureBook", "path", "LGestureBook$Path;", true)
  | 6 => ("GestureBook", "arranger", "LGestureBook$Arranger;", true)
  | 7 => ("GestureBook", "clusters", "LGestureBook$Clusters;", true)
  | 8 => ("GestureBook", "contrasts", "LGestureBook$Contrasts;", true)
  | _ => ("GestureBook", "errors", "[I", true)
def tyX11 : Nat → FieldType := fun k => match k with
  | 0 => .object "GestureBook$State"
  | 1 => .object "GestureBook$Past"
  | 2 => .object "GestureBook$Script"
  | 3 => .object "GestureBook$Meaning"
  | 4 => .object "GestureBook$WordOrder"
  | 5 => .object "GestureBook$Path"
  | 6 => .object "GestureBook$Arranger"
  | 7 => .object "GestureBook$Clusters"
  | 8 => .object "GestureBook$Contrasts"
  | _ => .array .int
theorem nmX11 : ∀ a, a < 10 → ∀ b, b < 10 → a ≠ b → (TX11 a).2.1 ≠ (TX11 b).2.1 := by decide +kernel
theorem tyX11_ok : ∀ k, k < 10 → parseFieldDescriptor (TX11 k).2.2.1 = some (tyX11 k) := by decide +kernel
abbrev cX11_init : ByteArray := prog_1_method_1_code
def yX11_init : MethodName := ⟨RX11, "<init>", "()V"⟩
abbrev cX11_sign : ByteArray := prog_1_method_2_code
def yX11_sign : MethodName := ⟨RX11, "sign", "(IIIII)I"⟩
abbrev cX11_becomes : ByteArray := prog_1_method_3_code
def yX11_becomes : MethodName := ⟨RX11, "becomes", "(III)I"⟩
abbrev cX11_drops : ByteArray := prog_1_method_4_code
def yX11_drops : MethodName := ⟨RX11, "drops", "(I)I"⟩
abbrev cX11_weight : ByteArray := prog_1_method_5_code
def yX11_weight : MethodName := ⟨RX11, "weight", "(II)I"⟩
abbrev cX11_draws : ByteArray := prog_1_method_6_code
def yX11_draws : MethodName := ⟨RX11, "draws", "(II)I"⟩
abbrev cX11_of : ByteArray := prog_1_method_7_code
def yX11_of : MethodName := ⟨RX11, "of", "(II)I"⟩
abbrev cX11_apart : ByteArray := prog_1_method_8_code
def yX11_apart : MethodName := ⟨RX11, "apart", "(III)I"⟩
abbrev cX11_look : ByteArray := prog_1_method_9_code
def yX11_look : MethodName := ⟨RX11, "look", "(IIII)I"⟩
abbrev cX11_near : ByteArray := prog_1_method_10_code
def yX11_near : MethodName := ⟨RX11, "near", "(II)I"⟩
abbrev cX11_nearest : ByteArray := prog_1_method_11_code
def yX11_nearest : MethodName := ⟨RX11, "nearest", "(IIII)I"⟩
abbrev cX11_sorts : ByteArray := prog_1_method_12_code
def yX11_sorts : MethodName := ⟨RX11, "sorts", "(I)I"⟩
abbrev cX11_groups : ByteArray := prog_1_method_13_code
def yX11_groups : MethodName := ⟨RX11, "groups", "(II)I"⟩
abbrev cX11_twins : ByteArray := prog_1_method_14_code
def yX11_twins : MethodName := ⟨RX11, "twins", "(I)I"⟩
abbrev cX11_enough : ByteArray := prog_1_method_15_code
def yX11_enough : MethodName := ⟨RX11, "enough", "(I)I"⟩
abbrev cX11_span : ByteArray := prog_1_method_16_code
def yX11_span : MethodName := ⟨RX11, "span", "(I)I"⟩
abbrev cX11_word : ByteArray := prog_1_method_17_code
def yX11_word : MethodName := ⟨RX11, "word", "(III)I"⟩
abbrev cX11_cuts : ByteArray := prog_1_method_18_code
def yX11_cuts : MethodName := ⟨RX11, "cuts", "(I)I"⟩
abbrev cX11_shifts : ByteArray := prog_1_method_19_code
def yX11_shifts : MethodName := ⟨RX11, "shifts", "(II)I"⟩
abbrev cX11_clears : ByteArray := prog_1_method_20_code
def yX11_clears : MethodName := ⟨RX11, "clears", "()I"⟩
abbrev cX11_wordOf : ByteArray := prog_1_method_21_code
def yX11_wordOf : MethodName := ⟨RX11, "wordOf", "(II)I"⟩
abbrev cX11_at : ByteArray := prog_1_method_22_code
def yX11_at : MethodName := ⟨RX11, "at", "(II)I"⟩
abbrev cX11_all : ByteArray := prog_1_method_23_code
def yX11_all : MethodName := ⟨RX11, "all", "(I)I"⟩
abbrev cX11_lays : ByteArray := prog_1_method_24_code
def yX11_lays : MethodName := ⟨RX11, "lays", "(II)I"⟩
abbrev cX11_lay : ByteArray := prog_1_method_25_code
def yX11_lay : MethodName := ⟨RX11, "lay", "(I)I"⟩
abbrev cX11_best : ByteArray := prog_1_method_26_code
def yX11_best : MethodName := ⟨RX11, "best", "(I)I"⟩
abbrev cX11_settles : ByteArray := prog_1_method_27_code
def yX11_settles : MethodName := ⟨RX11, "settles", "()I"⟩
abbrev cX11_type : ByteArray := prog_1_method_28_code
def yX11_type : MethodName := ⟨RX11, "type", "(I)I"⟩
abbrev cX11_clear : ByteArray := prog_1_method_29_code
def yX11_clear : MethodName := ⟨RX11, "clear", "()I"⟩
abbrev cX11_reads : ByteArray := prog_1_method_30_code
def yX11_reads : MethodName := ⟨RX11, "reads", "()I"⟩
abbrev cX11_back : ByteArray := prog_1_method_31_code
def yX11_back : MethodName := ⟨RX11, "back", "()I"⟩
abbrev cX11_told : ByteArray := prog_1_method_32_code
def yX11_told : MethodName := ⟨RX11, "told", "(I)I"⟩
abbrev cX11_digest : ByteArray := prog_1_method_33_code
def yX11_digest : MethodName := ⟨RX11, "digest", "()J"⟩
abbrev cX11_isWithin : ByteArray := prog_1_method_34_code
def yX11_isWithin : MethodName := ⟨RX11, "isWithin", "(III)Z"⟩
abbrev cX11_areWithin : ByteArray := prog_1_method_35_code
def yX11_areWithin : MethodName := ⟨RX11, "areWithin", "(IIIII)Z"⟩
abbrev cX11_isSpot : ByteArray := prog_1_method_36_code
def yX11_isSpot : MethodName := ⟨RX11, "isSpot", "(I)Z"⟩
abbrev cX11_counted : ByteArray := prog_1_method_37_code
def yX11_counted : MethodName := ⟨RX11, "counted", "(I)I"⟩
abbrev cX11_undoable : ByteArray := prog_1_method_38_code
def yX11_undoable : MethodName := ⟨RX11, "undoable", "(I)I"⟩
abbrev cX11_execute : ByteArray := prog_1_method_39_code
def yX11_execute : MethodName := ⟨RX11, "execute", "(I)I"⟩
abbrev cX11_examineSentence : ByteArray := prog_1_method_40_code
def yX11_examineSentence : MethodName := ⟨RX11, "examineSentence", "()V"⟩
abbrev cX11_findBestArrangement : ByteArray := prog_1_method_41_code
def yX11_findBestArrangement : MethodName := ⟨RX11, "findBestArrangement", "()V"⟩
abbrev cX11_wordProperty : ByteArray := prog_1_method_42_code
def yX11_wordProperty : MethodName := ⟨RX11, "wordProperty", "(II)I"⟩
abbrev cX11_sentenceProperty : ByteArray := prog_1_method_43_code
def yX11_sentenceProperty : MethodName := ⟨RX11, "sentenceProperty", "(I)I"⟩
abbrev cX11_figure : ByteArray := prog_1_method_44_code
def yX11_figure : MethodName := ⟨RX11, "figure", "(I)I"⟩
abbrev cX11_mixed : ByteArray := prog_1_method_45_code
def yX11_mixed : MethodName := ⟨RX11, "mixed", "(JI)J"⟩
abbrev cX11_withSigns : ByteArray := prog_1_method_46_code
def yX11_withSigns : MethodName := ⟨RX11, "withSigns", "(J)J"⟩
abbrev cX11_withWords : ByteArray := prog_1_method_47_code
def yX11_withWords : MethodName := ⟨RX11, "withWords", "(J)J"⟩
def RX12 : String := "GestureBookModel"
def TX12 : u_T := fun k => match k with
  | 0 => ("GestureBookModel", "w", "[I", true)
  | 1 => ("GestureBookModel", "states", "I", false)
  | 2 => ("GestureBookModel", "refused", "[I", true)
  | 3 => ("GestureBookModel", "text", "[I", true)
  | 4 => ("GestureBookModel", "letters", "I", false)
  | 5 => ("GestureBookModel", "drawn", "J", false)
  | 6 => ("GestureBookModel", "lie", "[I", true)
  | 7 => ("GestureBookModel", "bestLie", "[I", true)
  | 8 => ("GestureBookModel", "here", "I", false)
  | 9 => ("GestureBookModel", "orders", "I", false)
  | 10 => ("GestureBookModel", "orderIs", "[I", true)
  | 11 => ("GestureBookModel", "orderMany", "[I", true)
  | _ => ("GestureBookModel", "orderNumber", "[I", true)
def tyX12 : Nat → FieldType := fun k => match k with
  | 0 => .array .int
  | 1 => .int
  | 2 => .array .int
  | 3 => .array .int
  | 4 => .int
  | 5 => .long
  | 6 => .array .int
  | 7 => .array .int
  | 8 => .int
  | 9 => .int
  | 10 => .array .int
  | 11 => .array .int
  | _ => .array .int
theorem nmX12 : ∀ a, a < 13 → ∀ b, b < 13 → a ≠ b → (TX12 a).2.1 ≠ (TX12 b).2.1 := by decide +kernel
theorem tyX12_ok : ∀ k, k < 13 → parseFieldDescriptor (TX12 k).2.2.1 = some (tyX12 k) := by decide +kernel
abbrev cX12_init : ByteArray := prog_14_method_1_code
def yX12_init : MethodName := ⟨RX12, "<init>", "()V"⟩
abbrev cX12_in : ByteArray := prog_14_method_3_code
def yX12_in : MethodName := ⟨RX12, "in", "(JJJ)Z"⟩
abbrev cX12_has : ByteArray := prog_14_method_4_code
def yX12_has : MethodName := ⟨RX12, "has", "(II)Z"⟩
abbrev cX12_off : ByteArray := prog_14_method_5_code
def yX12_off : MethodName := ⟨RX12, "off", "(II)I"⟩
abbrev cX12_refuses : ByteArray := prog_14_method_6_code
def yX12_refuses : MethodName := ⟨RX12, "refuses", "(I)I"⟩
abbrev cX12_copy : ByteArray := prog_14_method_7_code
def yX12_copy : MethodName := ⟨RX12, "copy", "(II)V"⟩
abbrev cX12_minds : ByteArray := prog_14_method_8_code
def yX12_minds : MethodName := ⟨RX12, "minds", "()V"⟩
abbrev cX12_isSign : ByteArray := prog_14_method_9_code
def yX12_isSign : MethodName := ⟨RX12, "isSign", "(I)Z"⟩
abbrev cX12_part : ByteArray := prog_14_method_10_code
def yX12_part : MethodName := ⟨RX12, "part", "(II)I"⟩
abbrev cX12_isPart : ByteArray := prog_14_method_11_code
def yX12_isPart : MethodName := ⟨RX12, "isPart", "(I)Z"⟩
abbrev cX12_areParts : ByteArray := prog_14_method_12_code
def yX12_areParts : MethodName := ⟨RX12, "areParts", "(IIII)Z"⟩
abbrev cX12_signOf : ByteArray := prog_14_method_13_code
def yX12_signOf : MethodName := ⟨RX12, "signOf", "(IIIII)I"⟩
abbrev cX12_canSign : ByteArray := prog_14_method_14_code
def yX12_canSign : MethodName := ⟨RX12, "canSign", "(IIIII)I"⟩
abbrev cX12_adds : ByteArray := prog_14_method_15_code
def yX12_adds : MethodName := ⟨RX12, "adds", "(IIIII)I"⟩
abbrev cX12_sign : ByteArray := prog_14_method_16_code
def yX12_sign : MethodName := ⟨RX12, "sign", "(IIIII)I"⟩
abbrev cX12_becomes : ByteArray := prog_14_method_17_code
def yX12_becomes : MethodName := ⟨RX12, "becomes", "(III)I"⟩
abbrev cX12_wordsWith : ByteArray := prog_14_method_18_code
def yX12_wordsWith : MethodName := ⟨RX12, "wordsWith", "(I)I"⟩
abbrev cX12_canDrop : ByteArray := prog_14_method_19_code
def yX12_canDrop : MethodName := ⟨RX12, "canDrop", "(I)I"⟩
abbrev cX12_goes : ByteArray := prog_14_method_20_code
def yX12_goes : MethodName := ⟨RX12, "goes", "(I)I"⟩
abbrev cX12_drops : ByteArray := prog_14_method_21_code
def yX12_drops : MethodName := ⟨RX12, "drops", "(I)I"⟩
abbrev cX12_isWeight : ByteArray := prog_14_method_22_code
def yX12_isWeight : MethodName := ⟨RX12, "isWeight", "(II)Z"⟩
abbrev cX12_weight : ByteArray := prog_14_method_23_code
def yX12_weight : MethodName := ⟨RX12, "weight", "(II)I"⟩
abbrev cX12_next : ByteArray := prog_14_method_24_code
def yX12_next : MethodName := ⟨RX12, "next", "()I"⟩
abbrev cX12_draws : ByteArray := prog_14_method_25_code
def yX12_draws : MethodName := ⟨RX12, "draws", "(II)I"⟩
abbrev cX12_of : ByteArray := prog_14_method_26_code
def yX12_of : MethodName := ⟨RX12, "of", "(II)I"⟩
abbrev cX12_ones : ByteArray := prog_14_method_27_code
def yX12_ones : MethodName := ⟨RX12, "ones", "(I)I"⟩
abbrev cX12_apartBy : ByteArray := prog_14_method_28_code
def yX12_apartBy : MethodName := ⟨RX12, "apartBy", "(III)I"⟩
abbrev cX12_apartOf : ByteArray := prog_14_method_29_code
def yX12_apartOf : MethodName := ⟨RX12, "apartOf", "(IIIII)I"⟩
abbrev cX12_between : ByteArray := prog_14_method_30_code
def yX12_between : MethodName := ⟨RX12, "between", "(II)I"⟩
abbrev cX12_apart : ByteArray := prog_14_method_31_code
def yX12_apart : MethodName := ⟨RX12, "apart", "(III)I"⟩
abbrev cX12_isAsked : ByteArray := prog_14_method_32_code
def yX12_isAsked : MethodName := ⟨RX12, "isAsked", "(I)Z"⟩
abbrev cX12_isSo : ByteArray := prog_14_method_33_code
def yX12_isSo : MethodName := ⟨RX12, "isSo", "(III)Z"⟩
abbrev cX12_look : ByteArray := prog_14_method_34_code
def yX12_look : MethodName := ⟨RX12, "look", "(IIII)I"⟩
abbrev cX12_nearOf : ByteArray := prog_14_method_35_code
def yX12_nearOf : MethodName := ⟨RX12, "nearOf", "(II)I"⟩
abbrev cX12_near : ByteArray := prog_14_method_36_code
def yX12_near : MethodName := ⟨RX12, "near", "(II)I"⟩
abbrev cX12_nearest : ByteArray := prog_14_method_37_code
def yX12_nearest : MethodName := ⟨RX12, "nearest", "(IIII)I"⟩
abbrev cX12_sorts : ByteArray := prog_14_method_38_code
def yX12_sorts : MethodName := ⟨RX12, "sorts", "(I)I"⟩
abbrev cX12_group : ByteArray := prog_14_method_39_code
def yX12_group : MethodName := ⟨RX12, "group", "(II)I"⟩
abbrev cX12_groups : ByteArray := prog_14_method_40_code
def yX12_groups : MethodName := ⟨RX12, "groups", "(II)I"⟩
abbrev cX12_unlike : ByteArray := prog_14_method_41_code
def yX12_unlike : MethodName := ⟨RX12, "unlike", "(II)I"⟩
abbrev cX12_twinsBy : ByteArray := prog_14_method_42_code
def yX12_twinsBy : MethodName := ⟨RX12, "twinsBy", "(I)I"⟩
abbrev cX12_twins : ByteArray := prog_14_method_43_code
def yX12_twins : MethodName := ⟨RX12, "twins", "(I)I"⟩
abbrev cX12_isEnough : ByteArray := prog_14_method_44_code
def yX12_isEnough : MethodName := ⟨RX12, "isEnough", "(I)Z"⟩
abbrev cX12_leastEnough : ByteArray := prog_14_method_45_code
def yX12_leastEnough : MethodName := ⟨RX12, "leastEnough", "()I"⟩
abbrev cX12_enough : ByteArray := prog_14_method_46_code
def yX12_enough : MethodName := ⟨RX12, "enough", "(I)I"⟩
abbrev cX12_span : ByteArray := prog_14_method_47_code
def yX12_span : MethodName := ⟨RX12, "span", "(I)I"⟩
abbrev cX12_isWord : ByteArray := prog_14_method_48_code
def yX12_isWord : MethodName := ⟨RX12, "isWord", "(I)Z"⟩
abbrev cX12_said : ByteArray := prog_14_method_49_code
def yX12_said : MethodName := ⟨RX12, "said", "(II)I"⟩
abbrev cX12_sortOf : ByteArray := prog_14_method_50_code
def yX12_sortOf : MethodName := ⟨RX12, "sortOf", "(I)I"⟩
abbrev cX12_isSpot : ByteArray := prog_14_method_51_code
def yX12_isSpot : MethodName := ⟨RX12, "isSpot", "(I)Z"⟩
abbrev cX12_canSay : ByteArray := prog_14_method_52_code
def yX12_canSay : MethodName := ⟨RX12, "canSay", "(III)I"⟩
abbrev cX12_says : ByteArray := prog_14_method_53_code
def yX12_says : MethodName := ⟨RX12, "says", "(III)I"⟩
abbrev cX12_word : ByteArray := prog_14_method_54_code
def yX12_word : MethodName := ⟨RX12, "word", "(III)I"⟩
abbrev cX12_cuts : ByteArray := prog_14_method_55_code
def yX12_cuts : MethodName := ⟨RX12, "cuts", "(I)I"⟩
abbrev cX12_swaps : ByteArray := prog_14_method_56_code
def yX12_swaps : MethodName := ⟨RX12, "swaps", "(II)V"⟩
abbrev cX12_shifts : ByteArray := prog_14_method_57_code
def yX12_shifts : MethodName := ⟨RX12, "shifts", "(II)I"⟩
abbrev cX12_clearsAll : ByteArray := prog_14_method_58_code
def yX12_clearsAll : MethodName := ⟨RX12, "clearsAll", "()I"⟩
abbrev cX12_clears : ByteArray := prog_14_method_59_code
def yX12_clears : MethodName := ⟨RX12, "clears", "()I"⟩
abbrev cX12_atSpot : ByteArray := prog_14_method_60_code
def yX12_atSpot : MethodName := ⟨RX12, "atSpot", "(II)I"⟩
abbrev cX12_meant : ByteArray := prog_14_method_61_code
def yX12_meant : MethodName := ⟨RX12, "meant", "(II)I"⟩
abbrev cX12_isVain : ByteArray := prog_14_method_62_code
def yX12_isVain : MethodName := ⟨RX12, "isVain", "(I)Z"⟩
abbrev cX12_clauseOf : ByteArray := prog_14_method_63_code
def yX12_clauseOf : MethodName := ⟨RX12, "clauseOf", "(I)I"⟩
abbrev cX12_wordIs : ByteArray := prog_14_method_64_code
def yX12_wordIs : MethodName := ⟨RX12, "wordIs", "(II)I"⟩
abbrev cX12_wordOf : ByteArray := prog_14_method_65_code
def yX12_wordOf : MethodName := ⟨RX12, "wordOf", "(II)I"⟩
abbrev cX12_at : ByteArray := prog_14_method_66_code
def yX12_at : MethodName := ⟨RX12, "at", "(II)I"⟩
abbrev cX12_rank : ByteArray := prog_14_method_67_code
def yX12_rank : MethodName := ⟨RX12, "rank", "(I)I"⟩
abbrev cX12_swapsOfAll : ByteArray := prog_14_method_68_code
def yX12_swapsOfAll : MethodName := ⟨RX12, "swapsOfAll", "()I"⟩
abbrev cX12_ordered : ByteArray := prog_14_method_69_code
def yX12_ordered : MethodName := ⟨RX12, "ordered", "(I)I"⟩
abbrev cX12_clauses : ByteArray := prog_14_method_70_code
def yX12_clauses : MethodName := ⟨RX12, "clauses", "()I"⟩
abbrev cX12_moved : ByteArray := prog_14_method_71_code
def yX12_moved : MethodName := ⟨RX12, "moved", "()I"⟩
abbrev cX12_vain : ByteArray := prog_14_method_72_code
def yX12_vain : MethodName := ⟨RX12, "vain", "()I"⟩
abbrev cX12_spots : ByteArray := prog_14_method_73_code
def yX12_spots : MethodName := ⟨RX12, "spots", "()I"⟩
abbrev cX12_way : ByteArray := prog_14_method_74_code
def yX12_way : MethodName := ⟨RX12, "way", "()I"⟩
abbrev cX12_wayNow : ByteArray := prog_14_method_75_code
def yX12_wayNow : MethodName := ⟨RX12, "wayNow", "()I"⟩
abbrev cX12_all : ByteArray := prog_14_method_76_code
def yX12_all : MethodName := ⟨RX12, "all", "(I)I"⟩
abbrev cX12_spotAt : ByteArray := prog_14_method_77_code
def yX12_spotAt : MethodName := ⟨RX12, "spotAt", "(I)I"⟩
abbrev cX12_lays : ByteArray := prog_14_method_78_code
def yX12_lays : MethodName := ⟨RX12, "lays", "(II)I"⟩
abbrev cX12_lay : ByteArray := prog_14_method_79_code
def yX12_lay : MethodName := ⟨RX12, "lay", "(I)I"⟩
abbrev cX12_tries : ByteArray := prog_14_method_80_code
def yX12_tries : MethodName := ⟨RX12, "tries", "(I)V"⟩
abbrev cX12_bestWay : ByteArray := prog_14_method_81_code
def yX12_bestWay : MethodName := ⟨RX12, "bestWay", "()I"⟩
abbrev cX12_best : ByteArray := prog_14_method_82_code
def yX12_best : MethodName := ⟨RX12, "best", "(I)I"⟩
abbrev cX12_settles : ByteArray := prog_14_method_83_code
def yX12_settles : MethodName := ⟨RX12, "settles", "()I"⟩
abbrev cX12_type : ByteArray := prog_14_method_84_code
def yX12_type : MethodName := ⟨RX12, "type", "(I)I"⟩
abbrev cX12_clear : ByteArray := prog_14_method_85_code
def yX12_clear : MethodName := ⟨RX12, "clear", "()I"⟩
abbrev cX12_byteHere : ByteArray := prog_14_method_86_code
def yX12_byteHere : MethodName := ⟨RX12, "byteHere", "()I"⟩
abbrev cX12_blanks : ByteArray := prog_14_method_87_code
def yX12_blanks : MethodName := ⟨RX12, "blanks", "()V"⟩
abbrev cX12_least : ByteArray := prog_14_method_88_code
def yX12_least : MethodName := ⟨RX12, "least", "(I)I"⟩
abbrev cX12_isFigure : ByteArray := prog_14_method_89_code
def yX12_isFigure : MethodName := ⟨RX12, "isFigure", "()Z"⟩
abbrev cX12_readsOrder : ByteArray := prog_14_method_90_code
def yX12_readsOrder : MethodName := ⟨RX12, "readsOrder", "()Z"⟩
abbrev cX12_readsAll : ByteArray := prog_14_method_91_code
def yX12_readsAll : MethodName := ⟨RX12, "readsAll", "()Z"⟩
abbrev cX12_laysAll : ByteArray := prog_14_method_92_code
def yX12_laysAll : MethodName := ⟨RX12, "laysAll", "(I)Z"⟩
abbrev cX12_does : ByteArray := prog_14_method_93_code
def yX12_does : MethodName := ⟨RX12, "does", "(I)Z"⟩
abbrev cX12_reads : ByteArray := prog_14_method_94_code
def yX12_reads : MethodName := ⟨RX12, "reads", "()I"⟩
abbrev cX12_back : ByteArray := prog_14_method_95_code
def yX12_back : MethodName := ⟨RX12, "back", "()I"⟩
abbrev cX12_tells : ByteArray := prog_14_method_96_code
def yX12_tells : MethodName := ⟨RX12, "tells", "(I)I"⟩
abbrev cX12_told : ByteArray := prog_14_method_97_code
def yX12_told : MethodName := ⟨RX12, "told", "(I)I"⟩
abbrev cX12_digest : ByteArray := prog_14_method_98_code
def yX12_digest : MethodName := ⟨RX12, "digest", "()J"⟩
def RJ6 : String := "java/lang/Integer"
abbrev cJ6_bitCount_0f7a4 : ByteArray := prog_15_method_49_code
def yJ6_bitCount_0f7a4 : MethodName := ⟨RJ6, "bitCount", "(I)I"⟩
def RJ9 : String := "java/lang/Math"
abbrev cJ9_abs_0f7a4 : ByteArray := prog_16_method_59_code
def yJ9_abs_0f7a4 : MethodName := ⟨RJ9, "abs", "(I)I"⟩
abbrev cJ9_max_7cf53 : ByteArray := prog_16_method_65_code
def yJ9_max_7cf53 : MethodName := ⟨RJ9, "max", "(II)I"⟩
abbrev cJ9_min_7cf53 : ByteArray := prog_16_method_69_code
def yJ9_min_7cf53 : MethodName := ⟨RJ9, "min", "(II)I"⟩
def RJ10 : String := "java/lang/System"
def RJ7 : String := "java/util/Arrays"
abbrev cJ7_fill_53178 : ByteArray := prog_18_method_103_code
def yJ7_fill_53178 : MethodName := ⟨RJ7, "fill", "([II)V"⟩
def RL : String := "GestureBookLaw"
abbrev cL_law : ByteArray := code
def yL_law : MethodName := ⟨RL, "law", "([I)Z"⟩
abbrev classes : List vw_C := [(RX0, TX0, 4), (RX1, TX1, 2), (RX2, TX2, 1), (RX3, TX3, 3), (RX4, TX4, 7), (RX5, TX5, 3), (RX6, TX6, 2), (RX7, TX7, 7), (RX8, TX8, 2), (RX9, TX9, 3), (RX10, TX10, 2), (RX11, TX11, 10), (RX12, TX12, 13)]
def inX0_init : List (Nat × Instr × Nat) := [(0, .aload_n 0, 1), (1, .invokespecial 3, 3), (4, .aload_n 0, 1), (5, .bipush 36, 2), (7, .newarray .int, 2), (9, .putfield 9, 3), (12, .aload_n 0, 1), (13, .bipush 6, 2), (15, .newarray .int, 2), (17, .putfield 15, 3), (20, .aload_n 0, 1), (21, .bipush 6, 2), (23, .newarray .int, 2), (25, .putfield 18, 3), (28, .aload_n 0, 1), (29, .iconst 0, 1), (30, .putfield 21, 3), (33, .return_, 1)]
def inX0_arrange : List (Nat × Instr × Nat) := [(0, .aload_n 0, 1), (1, .getfield 9, 3), (4, .iconst 0, 1), (5, .invokestatic 25, 3), (8, .iconst 1, 1), (9, .istore_n 2, 1), (10, .iload_n 2, 1), (11, .aload_n 1, 1), (12, .getfield 31, 3), (15, .if_icmp .ge 51, 3), (18, .aload_n 1, 1), (19, .getfield 36, 3), (22, .iload_n 2, 1), (23, .iconst 1, 1), (24, .isub, 1), (25, .iaload, 1), (26, .istore_n 3, 1), (27, .aload_n 1, 1), (28, .getfield 36, 3), (31, .iload_n 2, 1), (32, .iaload, 1), (33, .istore 4, 2), (35, .aload_n 0, 1), (36, .getfield 9, 3), (39, .iload_n 3, 1), (40, .iload 4, 2), (42, .invokestatic 39, 3), (45, .bipush 6, 2), (47, .imul, 1), (48, .iload_n 3, 1), (49, .iload 4, 2), (51, .invokestatic 45, 3), (54, .iadd, 1), (55, .dup2, 1), (56, .iaload, 1), (57, .iconst 1, 1), (58, .iadd, 1), (59, .iastore, 1), (60, .iinc 2 1, 3), (63, .goto (-53), 3), (66, .aload_n 0, 1), (67, .ldc 50, 2), (69, .putfield 21, 3), (72, .aload_n 0, 1), (73, .iconst 0, 1), (74, .iconst 0, 1), (75, .iconst 0, 1), (76, .invokestatic 51, 3), (79, .return_, 1)]
def inX0_placeFrom : List (Nat × Instr × Nat) := [(0, .iload_n 3, 1), (1, .aload_n 0, 1), (2, .getfield 21, 3), (5, .if_icmp .lt 4, 3), (8, .return_, 1), (9, .iload_n 1, 1), (10, .bipush 6, 2), (12, .if_icmp .lt 24, 3), (15, .aload_n 0, 1), (16, .iload_n 3, 1), (17, .putfield 21, 3), (20, .aload_n 0, 1), (21, .getfield 15, 3), (24, .iconst 0, 1), (25, .aload_n 0, 1), (26, .getfield 18, 3), (29, .iconst 0, 1), (30, .bipush 6, 2), (32, .invokestatic 55, 3), (35, .return_, 1), (36, .iconst 0, 1), (37, .istore 4, 2), (39, .iload 4, 2), (41, .bipush 6, 2), (43, .if_icmp .ge 46, 3), (46, .iload_n 2, 1), (47, .iload 4, 2), (49, .ishr, 1), (50, .iconst 1, 1), (51, .iand, 1), (52, .ifCond .ne 31, 3), (55, .aload_n 0, 1), (56, .getfield 15, 3), (59, .iload_n 1, 1), (60, .iload 4, 2), (62, .iastore, 1), (63, .aload_n 0, 1), (64, .iload_n 1, 1), (65, .iconst 1, 1), (66, .iadd, 1), (67, .iload_n 2, 1), (68, .iconst 1, 1), (69, .iload 4, 2), (71, .ishl, 1), (72, .ior, 1), (73, .iload_n 3, 1), (74, .aload_n 0, 1), (75, .iload_n 1, 1), (76, .invokevirtual 61, 3), (79, .iadd, 1), (80, .invokestatic 51, 3), (83, .iinc 4 1, 3), (86, .goto (-47), 3), (89, .return_, 1)]
def inX0_lengthTo : List (Nat × Instr × Nat) := [(0, .iconst 0, 1), (1, .istore_n 2, 1), (2, .iconst 0, 1), (3, .istore_n 3, 1), (4, .iload_n 3, 1), (5, .iload_n 1, 1), (6, .if_icmp .ge 40, 3), (9, .iload_n 2, 1), (10, .aload_n 0, 1), (11, .getfield 9, 3), (14, .iload_n 1, 1), (15, .bipush 6, 2), (17, .imul, 1), (18, .iload_n 3, 1), (19, .iadd, 1), (20, .iaload, 1), (21, .aload_n 0, 1), (22, .getfield 15, 3), (25, .iload_n 1, 1), (26, .iaload, 1), (27, .aload_n 0, 1), (28, .getfield 15, 3), (31, .iload_n 3, 1), (32, .iaload, 1), (33, .isub, 1), (34, .invokestatic 65, 3), (37, .imul, 1), (38, .iadd, 1), (39, .istore_n 2, 1), (40, .iinc 3 1, 3), (43, .goto (-39), 3), (46, .iload_n 2, 1), (47, .ireturn, 1)]
def inX1_init : List (Nat × Instr × Nat) := [(0, .aload_n 0, 1), (1, .invokespecial 3, 3), (4, .aload_n 0, 1), (5, .bipush 16, 2), (7, .newarray .int, 2), (9, .putfield 9, 3), (12, .aload_n 0, 1), (13, .bipush 16, 2), (15, .newarray .int, 2), (17, .putfield 15, 3), (20, .return_, 1)]
def inX1_find : List (Nat × Instr × Nat) := [(0, .aload_n 0, 1), (1, .getfield 15, 3), (4, .iconst 0, 1), (5, .invokestatic 18, 3), (8, .iconst 0, 1), (9, .istore_n 3, 1), (10, .iload_n 3, 1), (11, .aload_n 1, 1), (12, .getfield 24, 3), (15, .if_icmp .ge 16, 3), (18, .aload_n 0, 1), (19, .getfield 9, 3), (22, .iload_n 3, 1), (23, .iload_n 3, 1), (24, .iastore, 1), (25, .iinc 3 1, 3), (28, .goto (-18), 3), (31, .iconst 0, 1), (32, .istore_n 3, 1), (33, .iload_n 3, 1), (34, .aload_n 1, 1), (35, .getfield 24, 3), (38, .if_icmp .ge 77, 3), (41, .iload_n 3, 1), (42, .iconst 1, 1), (43, .iadd, 1), (44, .istore 4, 2), (46, .iload 4, 2), (48, .aload_n 1, 1), (49, .getfield 24, 3), (52, .if_icmp .ge 57, 3), (55, .aload_n 0, 1), (56, .getfield 9, 3), (59, .iload_n 3, 1), (60, .iaload, 1), (61, .aload_n 0, 1), (62, .getfield 9, 3), (65, .iload 4, 2), (67, .iaload, 1), (68, .if_icmp .eq 35, 3), (71, .aload_n 1, 1), (72, .iload_n 3, 1), (73, .iload 4, 2), (75, .invokevirtual 30, 3), (78, .iload_n 2, 1), (79, .if_icmp .gt 24, 3), (82, .aload_n 0, 1), (83, .aload_n 0, 1), (84, .getfield 9, 3), (87, .iload_n 3, 1), (88, .iaload, 1), (89, .aload_n 0, 1), (90, .getfield 9, 3), (93, .iload 4, 2), (95, .iaload, 1), (96, .aload_n 1, 1), (97, .getfield 24, 3), (100, .invokevirtual 34, 3), (103, .iinc 4 1, 3), (106, .goto (-60), 3), (109, .iinc 3 1, 3), (112, .goto (-79), 3), (115, .iconst 0, 1), (116, .istore_n 3, 1), (117, .iload_n 3, 1), (118, .aload_n 1, 1), (119, .getfield 24, 3), (122, .if_icmp .ge 24, 3), (125, .aload_n 0, 1), (126, .getfield 15, 3), (129, .aload_n 0, 1), (130, .getfield 9, 3), (133, .iload_n 3, 1), (134, .iaload, 1), (135, .dup2, 1), (136, .iaload, 1), (137, .iconst 1, 1), (138, .iadd, 1), (139, .iastore, 1), (140, .iinc 3 1, 3), (143, .goto (-26), 3), (146, .return_, 1)]
def inX1_join : List (Nat × Instr × Nat) := [(0, .iconst 0, 1), (1, .istore 4, 2), (3, .iload 4, 2), (5, .iload_n 3, 1), (6, .if_icmp .ge 28, 3), (9, .aload_n 0, 1), (10, .getfield 9, 3), (13, .iload 4, 2), (15, .iaload, 1), (16, .iload_n 2, 1), (17, .if_icmp .ne 11, 3), (20, .aload_n 0, 1), (21, .getfield 9, 3), (24, .iload 4, 2), (26, .iload_n 1, 1), (27, .iastore, 1), (28, .iinc 4 1, 3), (31, .goto (-28), 3), (34, .return_, 1)]
def inX1_number : List (Nat × Instr × Nat) := [(0, .iconst 0, 1), (1, .istore_n 1, 1), (2, .aload_n 0, 1), (3, .getfield 15, 3), (6, .astore_n 2, 1), (7, .aload_n 2, 1), (8, .arraylength, 1), (9, .istore_n 3, 1), (10, .iconst 0, 1), (11, .istore 4, 2), (13, .iload 4, 2), (15, .iload_n 3, 1), (16, .if_icmp .ge 23, 3), (19, .aload_n 2, 1), (20, .iload 4, 2), (22, .iaload, 1), (23, .istore 5, 2), (25, .iload 5, 2), (27, .ifCond .le 6, 3), (30, .iinc 1 1, 3), (33, .iinc 4 1, 3), (36, .goto (-23), 3), (39, .iload_n 1, 1), (40, .ireturn, 1)]
def inX1_greatest : List (Nat × Instr × Nat) := [(0, .iconst 0, 1), (1, .istore_n 1, 1), (2, .aload_n 0, 1), (3, .getfield 15, 3), (6, .astore_n 2, 1), (7, .aload_n 2, 1), (8, .arraylength, 1), (9, .istore_n 3, 1), (10, .iconst 0, 1), (11, .istore 4, 2), (13, .iload 4, 2), (15, .iload_n 3, 1), (16, .if_icmp .ge 22, 3), (19, .aload_n 2, 1), (20, .iload 4, 2), (22, .iaload, 1), (23, .istore 5, 2), (25, .iload_n 1, 1), (26, .iload 5, 2), (28, .invokestatic 38, 3), (31, .istore_n 1, 1), (32, .iinc 4 1, 3), (35, .goto (-22), 3), (38, .iload_n 1, 1), (39, .ireturn, 1)]
def inX2_init : List (Nat × Instr × Nat) := [(0, .aload_n 0, 1), (1, .invokespecial 3, 3), (4, .aload_n 0, 1), (5, .bipush 16, 2), (7, .newarray .int, 2), (9, .putfield 11, 3), (12, .return_, 1)]
def inX2_compare : List (Nat × Instr × Nat) := [(0, .aload_n 0, 1), (1, .getfield 11, 3), (4, .iconst 0, 1), (5, .invokestatic 15, 3), (8, .iconst 0, 1), (9, .istore_n 2, 1), (10, .iload_n 2, 1), (11, .aload_n 1, 1), (12, .getfield 21, 3), (15, .if_icmp .ge 42, 3), (18, .iload_n 2, 1), (19, .iconst 1, 1), (20, .iadd, 1), (21, .istore_n 3, 1), (22, .iload_n 3, 1), (23, .aload_n 1, 1), (24, .getfield 21, 3), (27, .if_icmp .ge 24, 3), (30, .aload_n 0, 1), (31, .getfield 11, 3), (34, .aload_n 1, 1), (35, .iload_n 2, 1), (36, .iload_n 3, 1), (37, .invokevirtual 27, 3), (40, .dup2, 1), (41, .iaload, 1), (42, .iconst 1, 1), (43, .iadd, 1), (44, .iastore, 1), (45, .iinc 3 1, 3), (48, .goto (-26), 3), (51, .iinc 2 1, 3), (54, .goto (-44), 3), (57, .return_, 1)]
def inX2_minimalPairs : List (Nat × Instr × Nat) := [(0, .iconst 0, 1), (1, .istore_n 2, 1), (2, .iconst 0, 1), (3, .istore_n 3, 1), (4, .iload_n 3, 1), (5, .iconst 4, 1), (6, .if_icmp .ge 30, 3), (9, .iload_n 1, 1), (10, .iconst (-1), 1), (11, .if_icmp .eq 8, 3), (14, .iload_n 1, 1), (15, .iload_n 3, 1), (16, .if_icmp .ne 14, 3), (19, .iload_n 2, 1), (20, .aload_n 0, 1), (21, .getfield 11, 3), (24, .iconst 1, 1), (25, .iload_n 3, 1), (26, .ishl, 1), (27, .iaload, 1), (28, .iadd, 1), (29, .istore_n 2, 1), (30, .iinc 3 1, 3), (33, .goto (-29), 3), (36, .iload_n 2, 1), (37, .ireturn, 1)]
def inX2_isSufficient : List (Nat × Instr × Nat) := [(0, .iconst 0, 1), (1, .istore_n 2, 1), (2, .iload_n 2, 1), (3, .bipush 16, 2), (5, .if_icmp .ge 26, 3), (8, .aload_n 0, 1), (9, .getfield 11, 3), (12, .iload_n 2, 1), (13, .iaload, 1), (14, .ifCond .le 11, 3), (17, .iload_n 2, 1), (18, .iload_n 1, 1), (19, .iand, 1), (20, .ifCond .ne 5, 3), (23, .iconst 0, 1), (24, .ireturn, 1), (25, .iinc 2 1, 3), (28, .goto (-26), 3), (31, .iconst 1, 1), (32, .ireturn, 1)]
def inX2_leastSufficient : List (Nat × Instr × Nat) := [(0, .bipush 15, 2), (2, .istore_n 1, 1), (3, .iconst 0, 1), (4, .istore_n 2, 1), (5, .iload_n 2, 1), (6, .bipush 16, 2), (8, .if_icmp .ge 30, 3), (11, .iload_n 2, 1), (12, .invokestatic 31, 3), (15, .iload_n 1, 1), (16, .invokestatic 31, 3), (19, .if_icmp .ge 13, 3), (22, .aload_n 0, 1), (23, .iload_n 2, 1), (24, .invokevirtual 37, 3), (27, .ifCond .eq 5, 3), (30, .iload_n 2, 1), (31, .istore_n 1, 1), (32, .iinc 2 1, 3), (35, .goto (-30), 3), (38, .iload_n 1, 1), (39, .ireturn, 1)]
def inX3_init : List (Nat × Instr × Nat) := [(0, .aload_n 0, 1), (1, .invokespecial 3, 3), (4, .aload_n 0, 1), (5, .bipush 85, 2), (7, .newarray .int, 2), (9, .putfield 9, 3), (12, .aload_n 0, 1), (13, .iconst 4, 1), (14, .newarray .int, 2), (16, .dup, 1), (17, .iconst 0, 1), (18, .iconst 1, 1), (19, .iastore, 1), (20, .dup, 1), (21, .iconst 1, 1), (22, .iconst 1, 1), (23, .iastore, 1), (24, .dup, 1), (25, .iconst 2, 1), (26, .iconst 1, 1), (27, .iastore, 1), (28, .dup, 1), (29, .iconst 3, 1), (30, .iconst 1, 1), (31, .iastore, 1), (32, .putfield 15, 3), (35, .aload_n 0, 1), (36, .iconst 0, 1), (37, .putfield 18, 3), (40, .return_, 1)]
def inX3_copyFrom : List (Nat × Instr × Nat) := [(0, .aload_n 1, 1), (1, .getfield 9, 3), (4, .iconst 0, 1), (5, .aload_n 0, 1), (6, .getfield 9, 3), (9, .iconst 0, 1), (10, .aload_n 0, 1), (11, .getfield 9, 3), (14, .arraylength, 1), (15, .invokestatic 22, 3), (18, .aload_n 1, 1), (19, .getfield 15, 3), (22, .iconst 0, 1), (23, .aload_n 0, 1), (24, .getfield 15, 3), (27, .iconst 0, 1), (28, .iconst 4, 1), (29, .invokestatic 22, 3), (32, .aload_n 0, 1), (33, .aload_n 1, 1), (34, .getfield 18, 3), (37, .putfield 18, 3), (40, .return_, 1)]
def inX3_holds : List (Nat × Instr × Nat) := [(0, .iload_n 1, 1), (1, .iconst 0, 1), (2, .aload_n 0, 1), (3, .getfield 18, 3), (6, .iconst 1, 1), (7, .isub, 1), (8, .invokestatic 28, 3), (11, .ireturn, 1)]
def inX3_trait : List (Nat × Instr × Nat) := [(0, .iload_n 1, 1), (1, .ifCond .lt 31, 3), (4, .iload_n 1, 1), (5, .bipush 16, 2), (7, .if_icmp .gt 25, 3), (10, .iload_n 2, 1), (11, .ifCond .lt 21, 3), (14, .iload_n 2, 1), (15, .iconst 4, 1), (16, .if_icmp .gt 16, 3), (19, .aload_n 0, 1), (20, .getfield 9, 3), (23, .iload_n 1, 1), (24, .iconst 5, 1), (25, .imul, 1), (26, .iload_n 2, 1), (27, .iadd, 1), (28, .iaload, 1), (29, .goto 4, 3), (32, .iconst (-1), 1), (33, .ireturn, 1)]
def inX3_setTrait : List (Nat × Instr × Nat) := [(0, .iload_n 1, 1), (1, .iconst 0, 1), (2, .bipush 16, 2), (4, .invokestatic 28, 3), (7, .ifCond .eq 23, 3), (10, .iload_n 2, 1), (11, .iconst 0, 1), (12, .iconst 4, 1), (13, .invokestatic 28, 3), (16, .ifCond .eq 14, 3), (19, .aload_n 0, 1), (20, .getfield 9, 3), (23, .iload_n 1, 1), (24, .iconst 5, 1), (25, .imul, 1), (26, .iload_n 2, 1), (27, .iadd, 1), (28, .iload_n 3, 1), (29, .iastore, 1), (30, .return_, 1)]
def inX3_weightOf : List (Nat × Instr × Nat) := [(0, .iload_n 1, 1), (1, .iconst 0, 1), (2, .iconst 3, 1), (3, .invokestatic 28, 3), (6, .ifCond .eq 12, 3), (9, .aload_n 0, 1), (10, .getfield 15, 3), (13, .iload_n 1, 1), (14, .iaload, 1), (15, .goto 4, 3), (18, .iconst (-1), 1), (19, .ireturn, 1)]
def inX3_setWeight : List (Nat × Instr × Nat) := [(0, .iload_n 1, 1), (1, .iconst 0, 1), (2, .iconst 3, 1), (3, .invokestatic 28, 3), (6, .ifCond .eq 12, 3), (9, .iload_n 2, 1), (10, .iconst 0, 1), (11, .iconst 5, 1), (12, .invokestatic 28, 3), (15, .ifCond .ne 6, 3), (18, .bipush (-2), 2), (20, .ireturn, 1), (21, .aload_n 0, 1), (22, .getfield 15, 3), (25, .iload_n 1, 1), (26, .iaload, 1), (27, .istore_n 3, 1), (28, .aload_n 0, 1), (29, .getfield 15, 3), (32, .iload_n 1, 1), (33, .iload_n 2, 1), (34, .iastore, 1), (35, .iload_n 3, 1), (36, .ireturn, 1)]
def inX3_ask : List (Nat × Instr × Nat) := [(0, .aload_n 0, 1), (1, .bipush 16, 2), (3, .iconst 0, 1), (4, .iload_n 1, 1), (5, .invokevirtual 32, 3), (8, .aload_n 0, 1), (9, .bipush 16, 2), (11, .iconst 1, 1), (12, .iload_n 2, 1), (13, .invokevirtual 32, 3), (16, .aload_n 0, 1), (17, .bipush 16, 2), (19, .iconst 2, 1), (20, .iload_n 3, 1), (21, .invokevirtual 32, 3), (24, .aload_n 0, 1), (25, .bipush 16, 2), (27, .iconst 3, 1), (28, .iload 4, 2), (30, .invokevirtual 32, 3), (33, .return_, 1)]
def inX3_addSign : List (Nat × Instr × Nat) := [(0, .iload_n 1, 1), (1, .iload_n 2, 1), (2, .iload_n 3, 1), (3, .iload 4, 2), (5, .iconst 0, 1), (6, .invokestatic 36, 3), (9, .ifCond .eq 13, 3), (12, .iload 5, 2), (14, .iconst 0, 1), (15, .iconst 3, 1), (16, .invokestatic 28, 3), (19, .ifCond .ne 6, 3), (22, .bipush (-2), 2), (24, .ireturn, 1), (25, .aload_n 0, 1), (26, .iload_n 1, 1), (27, .iload_n 2, 1), (28, .iload_n 3, 1), (29, .iload 4, 2), (31, .invokevirtual 40, 3), (34, .aload_n 0, 1), (35, .bipush 16, 2), (37, .iconst 4, 1), (38, .iload 5, 2), (40, .invokevirtual 32, 3), (43, .aload_n 0, 1), (44, .invokevirtual 44, 3), (47, .ireturn, 1)]
def inX3_appendAsked : List (Nat × Instr × Nat) := [(0, .aload_n 0, 1), (1, .bipush 16, 2), (3, .invokevirtual 48, 3), (6, .ifCond .eq 6, 3), (9, .bipush (-3), 2), (11, .ireturn, 1), (12, .aload_n 0, 1), (13, .getfield 18, 3), (16, .bipush 16, 2), (18, .if_icmp .lt 6, 3), (21, .bipush (-4), 2), (23, .ireturn, 1), (24, .aload_n 0, 1), (25, .getfield 9, 3), (28, .bipush 80, 2), (30, .aload_n 0, 1), (31, .getfield 9, 3), (34, .aload_n 0, 1), (35, .getfield 18, 3), (38, .iconst 5, 1), (39, .imul, 1), (40, .iconst 5, 1), (41, .invokestatic 22, 3), (44, .aload_n 0, 1), (45, .dup, 1), (46, .getfield 18, 3), (49, .iconst 1, 1), (50, .iadd, 1), (51, .putfield 18, 3), (54, .aload_n 0, 1), (55, .getfield 18, 3), (58, .iconst 1, 1), (59, .isub, 1), (60, .ireturn, 1)]
def inX3_hasEqual : List (Nat × Instr × Nat) := [(0, .iconst 0, 1), (1, .istore_n 2, 1), (2, .iload_n 2, 1), (3, .aload_n 0, 1), (4, .getfield 18, 3), (7, .if_icmp .ge 25, 3), (10, .iload_n 2, 1), (11, .iload_n 1, 1), (12, .if_icmp .eq 14, 3), (15, .aload_n 0, 1), (16, .iload_n 2, 1), (17, .iload_n 1, 1), (18, .invokevirtual 52, 3), (21, .ifCond .ne 5, 3), (24, .iconst 1, 1), (25, .ireturn, 1), (26, .iinc 2 1, 3), (29, .goto (-27), 3), (32, .iconst 0, 1), (33, .ireturn, 1)]
def inX3_change : List (Nat × Instr × Nat) := [(0, .iload_n 2, 1), (1, .iconst 4, 1), (2, .if_icmp .ne 7, 3), (5, .iconst 3, 1), (6, .goto 5, 3), (9, .bipush 7, 2), (11, .istore 4, 2), (13, .aload_n 0, 1), (14, .iload_n 1, 1), (15, .invokevirtual 56, 3), (18, .ifCond .eq 22, 3), (21, .iload_n 2, 1), (22, .iconst 0, 1), (23, .iconst 4, 1), (24, .invokestatic 28, 3), (27, .ifCond .eq 13, 3), (30, .iload_n 3, 1), (31, .iconst 0, 1), (32, .iload 4, 2), (34, .invokestatic 28, 3), (37, .ifCond .ne 6, 3), (40, .bipush (-2), 2), (42, .ireturn, 1), (43, .aload_n 0, 1), (44, .iload_n 1, 1), (45, .iload_n 2, 1), (46, .invokevirtual 59, 3), (49, .istore 5, 2), (51, .aload_n 0, 1), (52, .iload_n 1, 1), (53, .iload_n 2, 1), (54, .iload_n 3, 1), (55, .invokevirtual 32, 3), (58, .aload_n 0, 1), (59, .iload_n 1, 1), (60, .invokevirtual 48, 3), (63, .ifCond .eq 14, 3), (66, .aload_n 0, 1), (67, .iload_n 1, 1), (68, .iload_n 2, 1), (69, .iload 5, 2), (71, .invokevirtual 32, 3), (74, .bipush (-3), 2), (76, .ireturn, 1), (77, .iload 5, 2), (79, .ireturn, 1)]
def inX3_remove : List (Nat × Instr × Nat) := [(0, .aload_n 0, 1), (1, .iload_n 1, 1), (2, .invokevirtual 56, 3), (5, .ifCond .ne 6, 3), (8, .bipush (-2), 2), (10, .ireturn, 1), (11, .aload_n 0, 1), (12, .getfield 9, 3), (15, .iload_n 1, 1), (16, .iconst 1, 1), (17, .iadd, 1), (18, .iconst 5, 1), (19, .imul, 1), (20, .aload_n 0, 1), (21, .getfield 9, 3), (24, .iload_n 1, 1), (25, .iconst 5, 1), (26, .imul, 1), (27, .aload_n 0, 1), (28, .getfield 18, 3), (31, .iconst 1, 1), (32, .isub, 1), (33, .iload_n 1, 1), (34, .isub, 1), (35, .iconst 5, 1), (36, .imul, 1), (37, .invokestatic 22, 3), (40, .aload_n 0, 1), (41, .dup, 1), (42, .getfield 18, 3), (45, .iconst 1, 1), (46, .isub, 1), (47, .putfield 18, 3), (50, .aload_n 0, 1), (51, .getfield 18, 3), (54, .ireturn, 1)]
def inX3_addRandom : List (Nat × Instr × Nat) := [(0, .iload_n 1, 1), (1, .iconst 0, 1), (2, .ldc 62, 2), (4, .invokestatic 28, 3), (7, .ifCond .eq 13, 3), (10, .iload_n 2, 1), (11, .iconst 1, 1), (12, .bipush 16, 2), (14, .invokestatic 28, 3), (17, .ifCond .ne 6, 3), (20, .bipush (-2), 2), (22, .ireturn, 1), (23, .aload_n 0, 1), (24, .getfield 18, 3), (27, .istore_n 3, 1), (28, .iload_n 1, 1), (29, .i2l, 1), (30, .lstore 4, 2), (32, .iconst 0, 1), (33, .istore 6, 2), (35, .iload 6, 2), (37, .iload_n 2, 1), (38, .if_icmp .ge 80, 3), (41, .iconst 0, 1), (42, .istore 7, 2), (44, .iload 7, 2), (46, .iconst 4, 1), (47, .if_icmp .gt 60, 3), (50, .lload 4, 2), (52, .ldc2_w 63, 3), (55, .lmul, 1), (56, .ldc2_w 65, 3), (59, .ladd, 1), (60, .ldc2_w 67, 3), (63, .lrem, 1), (64, .lstore 4, 2), (66, .iload 7, 2), (68, .iconst 4, 1), (69, .if_icmp .ne 9, 3), (72, .ldc2_w 69, 3), (75, .goto 6, 3), (78, .ldc2_w 71, 3), (81, .lstore 8, 2), (83, .aload_n 0, 1), (84, .bipush 16, 2), (86, .iload 7, 2), (88, .lload 4, 2), (90, .ldc2_w 73, 3), (93, .ldiv, 1), (94, .lload 8, 2), (96, .lrem, 1), (97, .l2i, 1), (98, .invokevirtual 32, 3), (101, .iinc 7 1, 3), (104, .goto (-60), 3), (107, .aload_n 0, 1), (108, .invokevirtual 44, 3), (111, .pop, 1), (112, .iinc 6 1, 3), (115, .goto (-80), 3), (118, .aload_n 0, 1), (119, .getfield 18, 3), (122, .iload_n 3, 1), (123, .isub, 1), (124, .ireturn, 1)]
def inX3_countOfSort : List (Nat × Instr × Nat) := [(0, .iconst 0, 1), (1, .istore_n 2, 1), (2, .iconst 0, 1), (3, .istore_n 3, 1), (4, .iload_n 3, 1), (5, .aload_n 0, 1), (6, .getfield 18, 3), (9, .if_icmp .ge 22, 3), (12, .aload_n 0, 1), (13, .iload_n 3, 1), (14, .iconst 4, 1), (15, .invokevirtual 59, 3), (18, .iload_n 1, 1), (19, .if_icmp .ne 6, 3), (22, .iinc 2 1, 3), (25, .iinc 3 1, 3), (28, .goto (-24), 3), (31, .iload_n 2, 1), (32, .ireturn, 1)]
def inX3_differingParts : List (Nat × Instr × Nat) := [(0, .iconst 0, 1), (1, .istore_n 3, 1), (2, .iconst 0, 1), (3, .istore 4, 2), (5, .iload 4, 2), (7, .iconst 4, 1), (8, .if_icmp .ge 33, 3), (11, .aload_n 0, 1), (12, .iload_n 1, 1), (13, .iload 4, 2), (15, .invokevirtual 59, 3), (18, .aload_n 0, 1), (19, .iload_n 2, 1), (20, .iload 4, 2), (22, .invokevirtual 59, 3), (25, .if_icmp .eq 10, 3), (28, .iload_n 3, 1), (29, .iconst 1, 1), (30, .iload 4, 2), (32, .ishl, 1), (33, .ior, 1), (34, .istore_n 3, 1), (35, .iinc 4 1, 3), (38, .goto (-33), 3), (41, .iload_n 3, 1), (42, .ireturn, 1)]
def inX3_gap : List (Nat × Instr × Nat) := [(0, .aload_n 0, 1), (1, .iload_n 2, 1), (2, .iload_n 1, 1), (3, .invokevirtual 59, 3), (6, .istore 4, 2), (8, .aload_n 0, 1), (9, .iload_n 3, 1), (10, .iload_n 1, 1), (11, .invokevirtual 59, 3), (14, .istore 5, 2), (16, .iload_n 1, 1), (17, .tableswitch 85 0 2 #[27, 36, 62], 27), (44, .iload 4, 2), (46, .iload 5, 2), (48, .ixor, 1), (49, .invokestatic 75, 3), (52, .ireturn, 1), (53, .iload 4, 2), (55, .iconst 4, 1), (56, .irem, 1), (57, .iload 5, 2), (59, .iconst 4, 1), (60, .irem, 1), (61, .isub, 1), (62, .invokestatic 81, 3), (65, .iload 4, 2), (67, .iconst 4, 1), (68, .idiv, 1), (69, .iload 5, 2), (71, .iconst 4, 1), (72, .idiv, 1), (73, .isub, 1), (74, .invokestatic 81, 3), (77, .iadd, 1), (78, .ireturn, 1), (79, .iload 4, 2), (81, .iload 5, 2), (83, .isub, 1), (84, .invokestatic 81, 3), (87, .bipush 8, 2), (89, .iload 4, 2), (91, .iload 5, 2), (93, .isub, 1), (94, .invokestatic 81, 3), (97, .isub, 1), (98, .invokestatic 86, 3), (101, .ireturn, 1), (102, .iload 4, 2), (104, .iload 5, 2), (106, .invokestatic 89, 3), (109, .ireturn, 1)]
def inX3_faceGap : List (Nat × Instr × Nat) := [(0, .iload_n 0, 1), (1, .iload_n 1, 1), (2, .if_icmp .ne 5, 3), (5, .iconst 0, 1), (6, .ireturn, 1), (7, .iload_n 0, 1), (8, .iconst 2, 1), (9, .idiv, 1), (10, .iload_n 1, 1), (11, .iconst 2, 1), (12, .idiv, 1), (13, .if_icmp .ne 5, 3), (16, .iconst 1, 1), (17, .ireturn, 1), (18, .iload_n 0, 1), (19, .iconst 4, 1), (20, .idiv, 1), (21, .iload_n 1, 1), (22, .iconst 4, 1), (23, .idiv, 1), (24, .if_icmp .ne 7, 3), (27, .iconst 2, 1), (28, .goto 4, 3), (31, .iconst 3, 1), (32, .ireturn, 1)]
def inX3_distance : List (Nat × Instr × Nat) := [(0, .iconst 0, 1), (1, .istore_n 3, 1), (2, .iconst 0, 1), (3, .istore 4, 2), (5, .iload 4, 2), (7, .iconst 4, 1), (8, .if_icmp .ge 28, 3), (11, .iload_n 3, 1), (12, .aload_n 0, 1), (13, .getfield 15, 3), (16, .iload 4, 2), (18, .iaload, 1), (19, .aload_n 0, 1), (20, .iload 4, 2), (22, .iload_n 1, 1), (23, .iload_n 2, 1), (24, .invokevirtual 92, 3), (27, .imul, 1), (28, .iadd, 1), (29, .istore_n 3, 1), (30, .iinc 4 1, 3), (33, .goto (-28), 3), (36, .iload_n 3, 1), (37, .ireturn, 1)]
def inX3_matches : List (Nat × Instr × Nat) := [(0, .iconst 0, 1), (1, .istore_n 1, 1), (2, .iconst 0, 1), (3, .istore_n 2, 1), (4, .iload_n 2, 1), (5, .aload_n 0, 1), (6, .getfield 18, 3), (9, .if_icmp .ge 23, 3), (12, .aload_n 0, 1), (13, .iload_n 2, 1), (14, .invokevirtual 96, 3), (17, .ifCond .eq 9, 3), (20, .iload_n 1, 1), (21, .iconst 1, 1), (22, .iload_n 2, 1), (23, .ishl, 1), (24, .ior, 1), (25, .istore_n 1, 1), (26, .iinc 2 1, 3), (29, .goto (-25), 3), (32, .iload_n 1, 1), (33, .ireturn, 1)]
def inX3_matchesAsked : List (Nat × Instr × Nat) := [(0, .iconst 0, 1), (1, .istore_n 2, 1), (2, .iload_n 2, 1), (3, .iconst 4, 1), (4, .if_icmp .ge 34, 3), (7, .aload_n 0, 1), (8, .bipush 16, 2), (10, .iload_n 2, 1), (11, .invokevirtual 59, 3), (14, .istore_n 3, 1), (15, .iload_n 3, 1), (16, .iconst (-1), 1), (17, .if_icmp .eq 15, 3), (20, .iload_n 3, 1), (21, .aload_n 0, 1), (22, .iload_n 1, 1), (23, .iload_n 2, 1), (24, .invokevirtual 59, 3), (27, .if_icmp .eq 5, 3), (30, .iconst 0, 1), (31, .ireturn, 1), (32, .iinc 2 1, 3), (35, .goto (-33), 3), (38, .iconst 1, 1), (39, .ireturn, 1)]
def inX3_neighbours : List (Nat × Instr × Nat) := [(0, .iconst 0, 1), (1, .istore_n 3, 1), (2, .iconst 0, 1), (3, .istore 4, 2), (5, .iload 4, 2), (7, .aload_n 0, 1), (8, .getfield 18, 3), (11, .if_icmp .ge 27, 3), (14, .aload_n 0, 1), (15, .iload 4, 2), (17, .iload_n 1, 1), (18, .invokevirtual 99, 3), (21, .iload_n 2, 1), (22, .if_icmp .gt 10, 3), (25, .iload_n 3, 1), (26, .iconst 1, 1), (27, .iload 4, 2), (29, .ishl, 1), (30, .ior, 1), (31, .istore_n 3, 1), (32, .iinc 4 1, 3), (35, .goto (-30), 3), (38, .iload_n 3, 1), (39, .ireturn, 1)]
def inX3_closest : List (Nat × Instr × Nat) := [(0, .iconst (-1), 1), (1, .istore_n 1, 1), (2, .ldc 102, 2), (4, .istore_n 2, 1), (5, .iconst 0, 1), (6, .istore_n 3, 1), (7, .iload_n 3, 1), (8, .aload_n 0, 1), (9, .getfield 18, 3), (12, .if_icmp .ge 29, 3), (15, .aload_n 0, 1), (16, .iload_n 3, 1), (17, .bipush 16, 2), (19, .invokevirtual 99, 3), (22, .istore 4, 2), (24, .iload 4, 2), (26, .iload_n 2, 1), (27, .if_icmp .ge 8, 3), (30, .iload 4, 2), (32, .istore_n 2, 1), (33, .iload_n 3, 1), (34, .istore_n 1, 1), (35, .iinc 3 1, 3), (38, .goto (-31), 3), (41, .iload_n 1, 1), (42, .ireturn, 1)]
def inX3_extremePair : List (Nat × Instr × Nat) := [(0, .iconst (-1), 1), (1, .istore_n 2, 1), (2, .iconst 0, 1), (3, .istore_n 3, 1), (4, .iconst 0, 1), (5, .istore 4, 2), (7, .iload 4, 2), (9, .aload_n 0, 1), (10, .getfield 18, 3), (13, .if_icmp .ge 76, 3), (16, .iload 4, 2), (18, .iconst 1, 1), (19, .iadd, 1), (20, .istore 5, 2), (22, .iload 5, 2), (24, .aload_n 0, 1), (25, .getfield 18, 3), (28, .if_icmp .ge 55, 3), (31, .aload_n 0, 1), (32, .iload 4, 2), (34, .iload 5, 2), (36, .invokevirtual 99, 3), (39, .istore 6, 2), (41, .iload_n 2, 1), (42, .iconst (-1), 1), (43, .if_icmp .eq 22, 3), (46, .iload_n 1, 1), (47, .ifCond .eq 12, 3), (50, .iload 6, 2), (52, .iload_n 3, 1), (53, .if_icmp .le 24, 3), (56, .goto 9, 3), (59, .iload 6, 2), (61, .iload_n 3, 1), (62, .if_icmp .ge 15, 3), (65, .iload 6, 2), (67, .istore_n 3, 1), (68, .iload 4, 2), (70, .bipush 16, 2), (72, .imul, 1), (73, .iload 5, 2), (75, .iadd, 1), (76, .istore_n 2, 1), (77, .iinc 5 1, 3), (80, .goto (-58), 3), (83, .iinc 4 1, 3), (86, .goto (-79), 3), (89, .iload_n 2, 1), (90, .ireturn, 1)]
def inX4_init : List (Nat × Instr × Nat) := [(0, .aload_n 0, 1), (1, .invokespecial 3, 3), (4, .aload_n 0, 1), (5, .bipush 6, 2), (7, .newarray .int, 2), (9, .putfield 9, 3), (12, .aload_n 0, 1), (13, .bipush 16, 2), (15, .newarray .int, 2), (17, .putfield 15, 3), (20, .aload_n 0, 1), (21, .bipush 16, 2), (23, .newarray .boolean, 2), (25, .putfield 18, 3), (28, .aload_n 0, 1), (29, .bipush 16, 2), (31, .newarray .int, 2), (33, .putfield 22, 3), (36, .aload_n 0, 1), (37, .bipush 16, 2), (39, .newarray .int, 2), (41, .putfield 25, 3), (44, .aload_n 0, 1), (45, .iconst 0, 1), (46, .putfield 28, 3), (49, .aload_n 0, 1), (50, .iconst 0, 1), (51, .putfield 32, 3), (54, .return_, 1)]
def inX4_interpret : List (Nat × Instr × Nat) := [(0, .aload_n 0, 1), (1, .getfield 9, 3), (4, .iconst (-1), 1), (5, .invokestatic 35, 3), (8, .aload_n 0, 1), (9, .iconst 0, 1), (10, .putfield 32, 3), (13, .aload_n 0, 1), (14, .iconst 0, 1), (15, .putfield 28, 3), (18, .iconst 0, 1), (19, .istore_n 3, 1), (20, .iload_n 2, 1), (21, .aload_n 1, 1), (22, .getfield 41, 3), (25, .getfield 47, 3), (28, .invokestatic 52, 3), (31, .istore 4, 2), (33, .iconst 0, 1), (34, .istore 5, 2), (36, .iload 5, 2), (38, .iload 4, 2), (40, .if_icmp .ge 73, 3), (43, .aload_n 1, 1), (44, .iload 5, 2), (46, .invokevirtual 58, 3), (49, .istore 6, 2), (51, .aload_n 0, 1), (52, .aload_n 1, 1), (53, .getfield 41, 3), (56, .iload 5, 2), (58, .iload 6, 2), (60, .invokevirtual 62, 3), (63, .aload_n 0, 1), (64, .getfield 15, 3), (67, .iload 5, 2), (69, .iload_n 3, 1), (70, .iastore, 1), (71, .aload_n 0, 1), (72, .iload_n 3, 1), (73, .iconst 1, 1), (74, .iadd, 1), (75, .putfield 28, 3), (78, .iload 6, 2), (80, .iconst 3, 1), (81, .if_icmp .ne 6, 3), (84, .iinc 3 1, 3), (87, .aload_n 0, 1), (88, .getfield 18, 3), (91, .iload 5, 2), (93, .baload, 1), (94, .ifCond .eq 13, 3), (97, .aload_n 0, 1), (98, .dup, 1), (99, .getfield 32, 3), (102, .iconst 1, 1), (103, .iadd, 1), (104, .putfield 32, 3), (107, .iinc 5 1, 3), (110, .goto (-74), 3), (113, .return_, 1)]
def inX4_interpretWord : List (Nat × Instr × Nat) := [(0, .aload_n 1, 1), (1, .iload_n 2, 1), (2, .invokevirtual 66, 3), (5, .istore 4, 2), (7, .aload_n 1, 1), (8, .iload_n 2, 1), (9, .invokevirtual 69, 3), (12, .istore 5, 2), (14, .aload_n 0, 1), (15, .getfield 18, 3), (18, .iload_n 2, 1), (19, .iconst 0, 1), (20, .bastore, 1), (21, .aload_n 0, 1), (22, .getfield 22, 3), (25, .iload_n 2, 1), (26, .iconst (-1), 1), (27, .iastore, 1), (28, .aload_n 0, 1), (29, .getfield 25, 3), (32, .iload_n 2, 1), (33, .iconst (-1), 1), (34, .iastore, 1), (35, .iload_n 3, 1), (36, .tableswitch 148 1 3 #[28, 42, 78], 28), (64, .aload_n 0, 1), (65, .iload 5, 2), (67, .aload_n 1, 1), (68, .iload_n 2, 1), (69, .invokevirtual 72, 3), (72, .invokevirtual 75, 3), (75, .goto 109, 3), (78, .aload_n 0, 1), (79, .getfield 22, 3), (82, .iload_n 2, 1), (83, .aload_n 0, 1), (84, .iload 5, 2), (86, .invokevirtual 79, 3), (89, .iastore, 1), (90, .aload_n 0, 1), (91, .getfield 18, 3), (94, .iload_n 2, 1), (95, .aload_n 0, 1), (96, .getfield 22, 3), (99, .iload_n 2, 1), (100, .iaload, 1), (101, .iconst (-1), 1), (102, .if_icmp .ne 7, 3), (105, .iconst 1, 1), (106, .goto 4, 3), (109, .iconst 0, 1), (110, .bastore, 1), (111, .goto 73, 3), (114, .aload_n 0, 1), (115, .getfield 22, 3), (118, .iload_n 2, 1), (119, .aload_n 0, 1), (120, .iload 4, 2), (122, .invokevirtual 79, 3), (125, .iastore, 1), (126, .aload_n 0, 1), (127, .getfield 25, 3), (130, .iload_n 2, 1), (131, .aload_n 0, 1), (132, .iload 5, 2), (134, .invokevirtual 79, 3), (137, .iastore, 1), (138, .aload_n 0, 1), (139, .getfield 18, 3), (142, .iload_n 2, 1), (143, .iload 4, 2), (145, .iconst (-1), 1), (146, .if_icmp .eq 13, 3), (149, .aload_n 0, 1), (150, .getfield 22, 3), (153, .iload_n 2, 1), (154, .iaload, 1), (155, .iconst (-1), 1), (156, .if_icmp .eq 19, 3), (159, .iload 5, 2), (161, .iconst (-1), 1), (162, .if_icmp .eq 17, 3), (165, .aload_n 0, 1), (166, .getfield 25, 3), (169, .iload_n 2, 1), (170, .iaload, 1), (171, .iconst (-1), 1), (172, .if_icmp .ne 7, 3), (175, .iconst 1, 1), (176, .goto 4, 3), (179, .iconst 0, 1), (180, .bastore, 1), (181, .goto 3, 3), (184, .return_, 1)]
def inX4_thingAt : List (Nat × Instr × Nat) := [(0, .iload_n 1, 1), (1, .invokestatic 82, 3), (4, .ifCond .eq 12, 3), (7, .aload_n 0, 1), (8, .getfield 9, 3), (11, .iload_n 1, 1), (12, .iaload, 1), (13, .goto 4, 3), (16, .iconst (-1), 1), (17, .ireturn, 1)]
def inX4_setThing : List (Nat × Instr × Nat) := [(0, .iload_n 1, 1), (1, .invokestatic 82, 3), (4, .ifCond .eq 10, 3), (7, .aload_n 0, 1), (8, .getfield 9, 3), (11, .iload_n 1, 1), (12, .iload_n 2, 1), (13, .iastore, 1), (14, .return_, 1)]
def inX5_init : List (Nat × Instr × Nat) := [(0, .aload_n 0, 1), (1, .invokespecial 3, 3), (4, .aload_n 0, 1), (5, .bipush 6, 2), (7, .anewarray 11, 3), (10, .putfield 13, 3), (13, .aload_n 0, 1), (14, .iconst 0, 1), (15, .putfield 17, 3), (18, .aload_n 0, 1), (19, .iconst 0, 1), (20, .putfield 21, 3), (23, .iconst 0, 1), (24, .istore_n 1, 1), (25, .iload_n 1, 1), (26, .bipush 6, 2), (28, .if_icmp .ge 22, 3), (31, .aload_n 0, 1), (32, .getfield 13, 3), (35, .iload_n 1, 1), (36, .new 11, 3), (39, .dup, 1), (40, .invokespecial 24, 3), (43, .aastore, 1), (44, .iinc 1 1, 3), (47, .goto (-22), 3), (50, .return_, 1)]
def inX5_stage : List (Nat × Instr × Nat) := [(0, .aload_n 0, 1), (1, .getfield 13, 3), (4, .aload_n 0, 1), (5, .getfield 17, 3), (8, .aaload, 1), (9, .aload_n 1, 1), (10, .invokevirtual 25, 3), (13, .return_, 1)]
def inX5_unstage : List (Nat × Instr × Nat) := [(0, .aload_n 1, 1), (1, .aload_n 0, 1), (2, .getfield 13, 3), (5, .aload_n 0, 1), (6, .getfield 17, 3), (9, .aaload, 1), (10, .invokevirtual 25, 3), (13, .return_, 1)]
def inX5_keepStaged : List (Nat × Instr × Nat) := [(0, .aload_n 0, 1), (1, .aload_n 0, 1), (2, .getfield 17, 3), (5, .iconst 1, 1), (6, .iadd, 1), (7, .bipush 6, 2), (9, .irem, 1), (10, .putfield 17, 3), (13, .aload_n 0, 1), (14, .aload_n 0, 1), (15, .getfield 21, 3), (18, .iconst 1, 1), (19, .iadd, 1), (20, .iconst 5, 1), (21, .invokestatic 29, 3), (24, .putfield 21, 3), (27, .return_, 1)]
def inX5_restore : List (Nat × Instr × Nat) := [(0, .aload_n 0, 1), (1, .getfield 21, 3), (4, .ifCond .ne 6, 3), (7, .bipush (-3), 2), (9, .ireturn, 1), (10, .aload_n 0, 1), (11, .aload_n 0, 1), (12, .getfield 17, 3), (15, .bipush 6, 2), (17, .iadd, 1), (18, .iconst 1, 1), (19, .isub, 1), (20, .bipush 6, 2), (22, .irem, 1), (23, .putfield 17, 3), (26, .aload_n 0, 1), (27, .dup, 1), (28, .getfield 21, 3), (31, .iconst 1, 1), (32, .isub, 1), (33, .putfield 21, 3), (36, .aload_n 1, 1), (37, .aload_n 0, 1), (38, .getfield 13, 3), (41, .aload_n 0, 1), (42, .getfield 17, 3), (45, .aaload, 1), (46, .invokevirtual 25, 3), (49, .aload_n 0, 1), (50, .getfield 21, 3), (53, .ireturn, 1)]
def inX6_init : List (Nat × Instr × Nat) := [(0, .aload_n 0, 1), (1, .invokespecial 3, 3), (4, .aload_n 0, 1), (5, .bipush 32, 2), (7, .newarray .int, 2), (9, .putfield 9, 3), (12, .aload_n 0, 1), (13, .iconst 0, 1), (14, .putfield 15, 3), (17, .return_, 1)]
def inX6_follow : List (Nat × Instr × Nat) := [(0, .aload_n 0, 1), (1, .iconst 0, 1), (2, .putfield 15, 3), (5, .iconst 0, 1), (6, .istore_n 2, 1), (7, .iload_n 2, 1), (8, .aload_n 1, 1), (9, .getfield 19, 3), (12, .if_icmp .ge 27, 3), (15, .aload_n 0, 1), (16, .aload_n 1, 1), (17, .iload_n 2, 1), (18, .invokevirtual 22, 3), (21, .invokevirtual 26, 3), (24, .aload_n 0, 1), (25, .aload_n 1, 1), (26, .iload_n 2, 1), (27, .invokevirtual 30, 3), (30, .invokevirtual 26, 3), (33, .iinc 2 1, 3), (36, .goto (-29), 3), (39, .return_, 1)]
def inX6_add : List (Nat × Instr × Nat) := [(0, .iload_n 1, 1), (1, .invokestatic 33, 3), (4, .ifCond .eq 35, 3), (7, .aload_n 0, 1), (8, .getfield 15, 3), (11, .aload_n 0, 1), (12, .getfield 9, 3), (15, .arraylength, 1), (16, .if_icmp .ge 23, 3), (19, .aload_n 0, 1), (20, .getfield 9, 3), (23, .aload_n 0, 1), (24, .getfield 15, 3), (27, .iload_n 1, 1), (28, .iastore, 1), (29, .aload_n 0, 1), (30, .dup, 1), (31, .getfield 15, 3), (34, .iconst 1, 1), (35, .iadd, 1), (36, .putfield 15, 3), (39, .return_, 1)]
def inX6_lengthWith : List (Nat × Instr × Nat) := [(0, .iconst 0, 1), (1, .istore_n 2, 1), (2, .iconst 1, 1), (3, .istore_n 3, 1), (4, .iload_n 3, 1), (5, .aload_n 0, 1), (6, .getfield 15, 3), (9, .if_icmp .ge 34, 3), (12, .iload_n 2, 1), (13, .aload_n 1, 1), (14, .aload_n 0, 1), (15, .getfield 9, 3), (18, .iload_n 3, 1), (19, .iaload, 1), (20, .iaload, 1), (21, .aload_n 1, 1), (22, .aload_n 0, 1), (23, .getfield 9, 3), (26, .iload_n 3, 1), (27, .iconst 1, 1), (28, .isub, 1), (29, .iaload, 1), (30, .iaload, 1), (31, .isub, 1), (32, .invokestatic 37, 3), (35, .iadd, 1), (36, .istore_n 2, 1), (37, .iinc 3 1, 3), (40, .goto (-36), 3), (43, .iload_n 2, 1), (44, .ireturn, 1)]
def inX6_setOfSpots : List (Nat × Instr × Nat) := [(0, .iconst 0, 1), (1, .istore_n 1, 1), (2, .iconst 0, 1), (3, .istore_n 2, 1), (4, .iload_n 2, 1), (5, .aload_n 0, 1), (6, .getfield 15, 3), (9, .if_icmp .ge 20, 3), (12, .iload_n 1, 1), (13, .iconst 1, 1), (14, .aload_n 0, 1), (15, .getfield 9, 3), (18, .iload_n 2, 1), (19, .iaload, 1), (20, .ishl, 1), (21, .ior, 1), (22, .istore_n 1, 1), (23, .iinc 2 1, 3), (26, .goto (-22), 3), (29, .iload_n 1, 1), (30, .ireturn, 1)]
def inX7_init : List (Nat × Instr × Nat) := [(0, .aload_n 0, 1), (1, .invokespecial 3, 3), (4, .aload_n 0, 1), (5, .bipush 120, 2), (7, .newarray .int, 2), (9, .putfield 9, 3), (12, .aload_n 0, 1), (13, .iconst 0, 1), (14, .putfield 15, 3), (17, .aload_n 0, 1), (18, .iconst 0, 1), (19, .putfield 19, 3), (22, .aload_n 0, 1), (23, .bipush 60, 2), (25, .newarray .int, 2), (27, .putfield 22, 3), (30, .aload_n 0, 1), (31, .bipush 60, 2), (33, .newarray .int, 2), (35, .putfield 25, 3), (38, .aload_n 0, 1), (39, .sipush 360, 3), (42, .newarray .int, 2), (44, .putfield 28, 3), (47, .aload_n 0, 1), (48, .iconst 0, 1), (49, .putfield 31, 3), (52, .return_, 1)]
def inX7_append : List (Nat × Instr × Nat) := [(0, .iload_n 1, 1), (1, .iconst 0, 1), (2, .bipush 127, 2), (4, .invokestatic 34, 3), (7, .ifCond .ne 6, 3), (10, .bipush (-2), 2), (12, .ireturn, 1), (13, .aload_n 0, 1), (14, .getfield 15, 3), (17, .bipush 120, 2), (19, .if_icmp .lt 6, 3), (22, .bipush (-4), 2), (24, .ireturn, 1), (25, .aload_n 0, 1), (26, .getfield 9, 3), (29, .aload_n 0, 1), (30, .getfield 15, 3), (33, .iload_n 1, 1), (34, .iastore, 1), (35, .aload_n 0, 1), (36, .dup, 1), (37, .getfield 15, 3), (40, .iconst 1, 1), (41, .iadd, 1), (42, .putfield 15, 3), (45, .aload_n 0, 1), (46, .getfield 15, 3), (49, .ireturn, 1)]
def inX7_empty : List (Nat × Instr × Nat) := [(0, .aload_n 0, 1), (1, .getfield 15, 3), (4, .istore_n 1, 1), (5, .aload_n 0, 1), (6, .iconst 0, 1), (7, .putfield 15, 3), (10, .iload_n 1, 1), (11, .ireturn, 1)]
def inX7_letter : List (Nat × Instr × Nat) := [(0, .iload_n 1, 1), (1, .iconst 0, 1), (2, .aload_n 0, 1), (3, .getfield 31, 3), (6, .iconst 1, 1), (7, .isub, 1), (8, .invokestatic 34, 3), (11, .ifCond .eq 12, 3), (14, .aload_n 0, 1), (15, .getfield 22, 3), (18, .iload_n 1, 1), (19, .iaload, 1), (20, .goto 4, 3), (23, .iconst (-1), 1), (24, .ireturn, 1)]
def inX7_numbers : List (Nat × Instr × Nat) := [(0, .iload_n 1, 1), (1, .iconst 0, 1), (2, .aload_n 0, 1), (3, .getfield 31, 3), (6, .iconst 1, 1), (7, .isub, 1), (8, .invokestatic 34, 3), (11, .ifCond .eq 12, 3), (14, .aload_n 0, 1), (15, .getfield 25, 3), (18, .iload_n 1, 1), (19, .iaload, 1), (20, .goto 4, 3), (23, .iconst 0, 1), (24, .ireturn, 1)]
def inX7_number : List (Nat × Instr × Nat) := [(0, .iload_n 2, 1), (1, .iconst 0, 1), (2, .aload_n 0, 1), (3, .iload_n 1, 1), (4, .invokevirtual 38, 3), (7, .iconst 1, 1), (8, .isub, 1), (9, .invokestatic 34, 3), (12, .ifCond .eq 17, 3), (15, .aload_n 0, 1), (16, .getfield 28, 3), (19, .iload_n 1, 1), (20, .bipush 6, 2), (22, .imul, 1), (23, .iload_n 2, 1), (24, .iadd, 1), (25, .iaload, 1), (26, .goto 4, 3), (29, .iconst (-1), 1), (30, .ireturn, 1)]
def inX7_parse : List (Nat × Instr × Nat) := [(0, .aload_n 0, 1), (1, .iconst 0, 1), (2, .putfield 31, 3), (5, .aload_n 0, 1), (6, .iconst 0, 1), (7, .putfield 19, 3), (10, .iconst 0, 1), (11, .istore_n 1, 1), (12, .iload_n 1, 1), (13, .bipush 60, 2), (15, .if_icmp .ge 51, 3), (18, .aload_n 0, 1), (19, .invokevirtual 42, 3), (22, .iload_n 1, 1), (23, .ifCond .le 17, 3), (26, .aload_n 0, 1), (27, .getfield 19, 3), (30, .aload_n 0, 1), (31, .getfield 15, 3), (34, .if_icmp .lt 6, 3), (37, .goto 29, 3), (40, .aload_n 0, 1), (41, .iload_n 1, 1), (42, .invokevirtual 45, 3), (45, .ifCond .ne 8, 3), (48, .aload_n 0, 1), (49, .getfield 19, 3), (52, .ireturn, 1), (53, .aload_n 0, 1), (54, .iload_n 1, 1), (55, .iconst 1, 1), (56, .iadd, 1), (57, .putfield 31, 3), (60, .iinc 1 1, 3), (63, .goto (-51), 3), (66, .iconst (-1), 1), (67, .ireturn, 1)]
def inX7_skipBlanks : List (Nat × Instr × Nat) := [(0, .aload_n 0, 1), (1, .getfield 19, 3), (4, .aload_n 0, 1), (5, .getfield 15, 3), (8, .if_icmp .ge 30, 3), (11, .aload_n 0, 1), (12, .getfield 9, 3), (15, .aload_n 0, 1), (16, .getfield 19, 3), (19, .iaload, 1), (20, .bipush 32, 2), (22, .if_icmp .ne 16, 3), (25, .aload_n 0, 1), (26, .dup, 1), (27, .getfield 19, 3), (30, .iconst 1, 1), (31, .iadd, 1), (32, .putfield 19, 3), (35, .goto (-35), 3), (38, .return_, 1)]
def inX7_current : List (Nat × Instr × Nat) := [(0, .aload_n 0, 1), (1, .getfield 19, 3), (4, .iconst 0, 1), (5, .aload_n 0, 1), (6, .getfield 15, 3), (9, .iconst 1, 1), (10, .isub, 1), (11, .invokestatic 34, 3), (14, .ifCond .eq 15, 3), (17, .aload_n 0, 1), (18, .getfield 9, 3), (21, .aload_n 0, 1), (22, .getfield 19, 3), (25, .iaload, 1), (26, .goto 4, 3), (29, .iconst (-1), 1), (30, .ireturn, 1)]
def inX7_isAtDigit : List (Nat × Instr × Nat) := [(0, .aload_n 0, 1), (1, .invokevirtual 49, 3), (4, .bipush 48, 2), (6, .bipush 57, 2), (8, .invokestatic 34, 3), (11, .ireturn, 1)]
def inX7_parseOrder : List (Nat × Instr × Nat) := [(0, .aload_n 0, 1), (1, .invokevirtual 49, 3), (4, .invokestatic 53, 3), (7, .istore_n 2, 1), (8, .iload_n 2, 1), (9, .iconst (-1), 1), (10, .if_icmp .ne 5, 3), (13, .iconst 0, 1), (14, .ireturn, 1), (15, .aload_n 0, 1), (16, .invokevirtual 49, 3), (19, .bipush 119, 2), (21, .if_icmp .ne 7, 3), (24, .iconst 1, 1), (25, .goto 4, 3), (28, .iload_n 2, 1), (29, .istore_n 3, 1), (30, .aload_n 0, 1), (31, .getfield 22, 3), (34, .iload_n 1, 1), (35, .aload_n 0, 1), (36, .invokevirtual 49, 3), (39, .iastore, 1), (40, .aload_n 0, 1), (41, .getfield 25, 3), (44, .iload_n 1, 1), (45, .iconst 0, 1), (46, .iastore, 1), (47, .aload_n 0, 1), (48, .dup, 1), (49, .getfield 19, 3), (52, .iconst 1, 1), (53, .iadd, 1), (54, .putfield 19, 3), (57, .aload_n 0, 1), (58, .invokevirtual 42, 3), (61, .iconst 0, 1), (62, .istore 4, 2), (64, .iload 4, 2), (66, .iload_n 2, 1), (67, .if_icmp .ge 32, 3), (70, .aload_n 0, 1), (71, .invokevirtual 56, 3), (74, .ifCond .eq 25, 3), (77, .aload_n 0, 1), (78, .iload_n 1, 1), (79, .iload 4, 2), (81, .invokevirtual 60, 3), (84, .ifCond .ne 5, 3), (87, .iconst 0, 1), (88, .ireturn, 1), (89, .aload_n 0, 1), (90, .invokevirtual 42, 3), (93, .iinc 4 1, 3), (96, .goto (-32), 3), (99, .aload_n 0, 1), (100, .invokevirtual 49, 3), (103, .bipush 59, 2), (105, .if_icmp .ne 13, 3), (108, .aload_n 0, 1), (109, .getfield 25, 3), (112, .iload_n 1, 1), (113, .iaload, 1), (114, .iload_n 3, 1), (115, .if_icmp .ge 5, 3), (118, .iconst 0, 1), (119, .ireturn, 1), (120, .aload_n 0, 1), (121, .dup, 1), (122, .getfield 19, 3), (125, .iconst 1, 1), (126, .iadd, 1), (127, .putfield 19, 3), (130, .iconst 1, 1), (131, .ireturn, 1)]
def inX7_parseNumber : List (Nat × Instr × Nat) := [(0, .aload_n 0, 1), (1, .invokevirtual 49, 3), (4, .bipush 48, 2), (6, .isub, 1), (7, .istore_n 3, 1), (8, .aload_n 0, 1), (9, .dup, 1), (10, .getfield 19, 3), (13, .iconst 1, 1), (14, .iadd, 1), (15, .putfield 19, 3), (18, .aload_n 0, 1), (19, .invokevirtual 56, 3), (22, .ifCond .eq 26, 3), (25, .iload_n 3, 1), (26, .bipush 10, 2), (28, .imul, 1), (29, .aload_n 0, 1), (30, .invokevirtual 49, 3), (33, .iadd, 1), (34, .bipush 48, 2), (36, .isub, 1), (37, .istore_n 3, 1), (38, .aload_n 0, 1), (39, .dup, 1), (40, .getfield 19, 3), (43, .iconst 1, 1), (44, .iadd, 1), (45, .putfield 19, 3), (48, .aload_n 0, 1), (49, .getfield 28, 3), (52, .iload_n 1, 1), (53, .bipush 6, 2), (55, .imul, 1), (56, .iload_n 2, 1), (57, .iadd, 1), (58, .iload_n 3, 1), (59, .iastore, 1), (60, .aload_n 0, 1), (61, .getfield 25, 3), (64, .iload_n 1, 1), (65, .iload_n 2, 1), (66, .iconst 1, 1), (67, .iadd, 1), (68, .iastore, 1), (69, .aload_n 0, 1), (70, .invokevirtual 56, 3), (73, .ifCond .ne 7, 3), (76, .iconst 1, 1), (77, .goto 4, 3), (80, .iconst 0, 1), (81, .ireturn, 1)]
def inX7_mostNumbers : List (Nat × Instr × Nat) := [(0, .iload_n 0, 1), (1, .lookupswitch 72 #[(99, 70), (100, 68), (103, 63), (108, 65), (115, 59), (119, 61)], 59), (60, .iconst 5, 1), (61, .ireturn, 1), (62, .iconst 3, 1), (63, .ireturn, 1), (64, .iconst 2, 1), (65, .ireturn, 1), (66, .bipush 6, 2), (68, .ireturn, 1), (69, .iconst 1, 1), (70, .ireturn, 1), (71, .iconst 0, 1), (72, .ireturn, 1), (73, .iconst (-1), 1), (74, .ireturn, 1)]
def inX8_init : List (Nat × Instr × Nat) := [(0, .aload_n 0, 1), (1, .invokespecial 3, 3), (4, .aload_n 0, 1), (5, .bipush 48, 2), (7, .newarray .int, 2), (9, .putfield 11, 3), (12, .aload_n 0, 1), (13, .iconst 0, 1), (14, .putfield 15, 3), (17, .return_, 1)]
def inX8_copyFrom : List (Nat × Instr × Nat) := [(0, .aload_n 1, 1), (1, .getfield 11, 3), (4, .iconst 0, 1), (5, .aload_n 0, 1), (6, .getfield 11, 3), (9, .iconst 0, 1), (10, .aload_n 0, 1), (11, .getfield 11, 3), (14, .arraylength, 1), (15, .invokestatic 19, 3), (18, .aload_n 0, 1), (19, .aload_n 1, 1), (20, .getfield 15, 3), (23, .putfield 15, 3), (26, .return_, 1)]
def inX8_holds : List (Nat × Instr × Nat) := [(0, .iload_n 1, 1), (1, .iconst 0, 1), (2, .aload_n 0, 1), (3, .getfield 15, 3), (6, .iconst 1, 1), (7, .isub, 1), (8, .invokestatic 25, 3), (11, .ireturn, 1)]
def inX8_signIn : List (Nat × Instr × Nat) := [(0, .aload_n 0, 1), (1, .iload_n 1, 1), (2, .iconst 0, 1), (3, .invokevirtual 29, 3), (6, .ireturn, 1)]
def inX8_from : List (Nat × Instr × Nat) := [(0, .aload_n 0, 1), (1, .iload_n 1, 1), (2, .iconst 1, 1), (3, .invokevirtual 29, 3), (6, .ireturn, 1)]
def inX8_to : List (Nat × Instr × Nat) := [(0, .aload_n 0, 1), (1, .iload_n 1, 1), (2, .iconst 2, 1), (3, .invokevirtual 29, 3), (6, .ireturn, 1)]
def inX8_cell : List (Nat × Instr × Nat) := [(0, .iload_n 1, 1), (1, .ifCond .lt 24, 3), (4, .iload_n 1, 1), (5, .aload_n 0, 1), (6, .getfield 15, 3), (9, .if_icmp .ge 16, 3), (12, .aload_n 0, 1), (13, .getfield 11, 3), (16, .iload_n 1, 1), (17, .iconst 3, 1), (18, .imul, 1), (19, .iload_n 2, 1), (20, .iadd, 1), (21, .iaload, 1), (22, .goto 4, 3), (25, .iconst (-1), 1), (26, .ireturn, 1)]
def inX8_countOf : List (Nat × Instr × Nat) := [(0, .iconst 0, 1), (1, .istore_n 2, 1), (2, .iconst 0, 1), (3, .istore_n 3, 1), (4, .iload_n 3, 1), (5, .aload_n 0, 1), (6, .getfield 15, 3), (9, .if_icmp .ge 21, 3), (12, .aload_n 0, 1), (13, .iload_n 3, 1), (14, .invokevirtual 33, 3), (17, .iload_n 1, 1), (18, .if_icmp .ne 6, 3), (21, .iinc 2 1, 3), (24, .iinc 3 1, 3), (27, .goto (-23), 3), (30, .iload_n 2, 1), (31, .ireturn, 1)]
def inX8_renumberAbove : List (Nat × Instr × Nat) := [(0, .iconst 0, 1), (1, .istore_n 2, 1), (2, .iload_n 2, 1), (3, .aload_n 0, 1), (4, .getfield 15, 3), (7, .if_icmp .ge 33, 3), (10, .aload_n 0, 1), (11, .getfield 11, 3), (14, .iload_n 2, 1), (15, .iconst 3, 1), (16, .imul, 1), (17, .iaload, 1), (18, .iload_n 1, 1), (19, .if_icmp .le 15, 3), (22, .aload_n 0, 1), (23, .getfield 11, 3), (26, .iload_n 2, 1), (27, .iconst 3, 1), (28, .imul, 1), (29, .dup2, 1), (30, .iaload, 1), (31, .iconst 1, 1), (32, .isub, 1), (33, .iastore, 1), (34, .iinc 2 1, 3), (37, .goto (-35), 3), (40, .return_, 1)]
def inX8_append : List (Nat × Instr × Nat) := [(0, .aload_n 0, 1), (1, .getfield 15, 3), (4, .bipush 16, 2), (6, .if_icmp .lt 6, 3), (9, .bipush (-4), 2), (11, .ireturn, 1), (12, .aload_n 0, 1), (13, .aload_n 0, 1), (14, .getfield 15, 3), (17, .iload_n 1, 1), (18, .iload_n 2, 1), (19, .iload_n 3, 1), (20, .invokevirtual 37, 3), (23, .aload_n 0, 1), (24, .dup, 1), (25, .getfield 15, 3), (28, .iconst 1, 1), (29, .iadd, 1), (30, .putfield 15, 3), (33, .aload_n 0, 1), (34, .getfield 15, 3), (37, .iconst 1, 1), (38, .isub, 1), (39, .ireturn, 1)]
def inX8_put : List (Nat × Instr × Nat) := [(0, .iload_n 1, 1), (1, .iconst 0, 1), (2, .bipush 15, 2), (4, .invokestatic 25, 3), (7, .ifCond .eq 35, 3), (10, .aload_n 0, 1), (11, .getfield 11, 3), (14, .iload_n 1, 1), (15, .iconst 3, 1), (16, .imul, 1), (17, .iload_n 2, 1), (18, .iastore, 1), (19, .aload_n 0, 1), (20, .getfield 11, 3), (23, .iload_n 1, 1), (24, .iconst 3, 1), (25, .imul, 1), (26, .iconst 1, 1), (27, .iadd, 1), (28, .iload_n 3, 1), (29, .iastore, 1), (30, .aload_n 0, 1), (31, .getfield 11, 3), (34, .iload_n 1, 1), (35, .iconst 3, 1), (36, .imul, 1), (37, .iconst 2, 1), (38, .iadd, 1), (39, .iload 4, 2), (41, .iastore, 1), (42, .return_, 1)]
def inX8_remove : List (Nat × Instr × Nat) := [(0, .aload_n 0, 1), (1, .iload_n 1, 1), (2, .invokevirtual 41, 3), (5, .ifCond .ne 6, 3), (8, .bipush (-2), 2), (10, .ireturn, 1), (11, .aload_n 0, 1), (12, .iload_n 1, 1), (13, .iconst 1, 1), (14, .iadd, 1), (15, .iload_n 1, 1), (16, .aload_n 0, 1), (17, .getfield 15, 3), (20, .iconst 1, 1), (21, .isub, 1), (22, .iload_n 1, 1), (23, .isub, 1), (24, .invokevirtual 45, 3), (27, .aload_n 0, 1), (28, .dup, 1), (29, .getfield 15, 3), (32, .iconst 1, 1), (33, .isub, 1), (34, .putfield 15, 3), (37, .aload_n 0, 1), (38, .getfield 15, 3), (41, .ireturn, 1)]
def inX8_move : List (Nat × Instr × Nat) := [(0, .aload_n 0, 1), (1, .iload_n 1, 1), (2, .invokevirtual 41, 3), (5, .ifCond .eq 11, 3), (8, .aload_n 0, 1), (9, .iload_n 2, 1), (10, .invokevirtual 41, 3), (13, .ifCond .ne 6, 3), (16, .bipush (-2), 2), (18, .ireturn, 1), (19, .aload_n 0, 1), (20, .iload_n 1, 1), (21, .invokevirtual 33, 3), (24, .istore_n 3, 1), (25, .aload_n 0, 1), (26, .iload_n 1, 1), (27, .invokevirtual 49, 3), (30, .istore 4, 2), (32, .aload_n 0, 1), (33, .iload_n 1, 1), (34, .invokevirtual 52, 3), (37, .istore 5, 2), (39, .iload_n 1, 1), (40, .iload_n 2, 1), (41, .if_icmp .ge 17, 3), (44, .aload_n 0, 1), (45, .iload_n 1, 1), (46, .iconst 1, 1), (47, .iadd, 1), (48, .iload_n 1, 1), (49, .iload_n 2, 1), (50, .iload_n 1, 1), (51, .isub, 1), (52, .invokevirtual 45, 3), (55, .goto 14, 3), (58, .aload_n 0, 1), (59, .iload_n 2, 1), (60, .iload_n 2, 1), (61, .iconst 1, 1), (62, .iadd, 1), (63, .iload_n 1, 1), (64, .iload_n 2, 1), (65, .isub, 1), (66, .invokevirtual 45, 3), (69, .aload_n 0, 1), (70, .iload_n 2, 1), (71, .iload_n 3, 1), (72, .iload 4, 2), (74, .iload 5, 2), (76, .invokevirtual 37, 3), (79, .iload_n 1, 1), (80, .iload_n 2, 1), (81, .isub, 1), (82, .invokestatic 55, 3), (85, .ireturn, 1)]
def inX8_moveRows : List (Nat × Instr × Nat) := [(0, .aload_n 0, 1), (1, .getfield 11, 3), (4, .iload_n 1, 1), (5, .iconst 3, 1), (6, .imul, 1), (7, .aload_n 0, 1), (8, .getfield 11, 3), (11, .iload_n 2, 1), (12, .iconst 3, 1), (13, .imul, 1), (14, .iload_n 3, 1), (15, .iconst 3, 1), (16, .imul, 1), (17, .invokestatic 19, 3), (20, .return_, 1)]
def inX8_removeAll : List (Nat × Instr × Nat) := [(0, .aload_n 0, 1), (1, .getfield 15, 3), (4, .istore_n 1, 1), (5, .aload_n 0, 1), (6, .iconst 0, 1), (7, .putfield 15, 3), (10, .iload_n 1, 1), (11, .ireturn, 1)]
def inX9_init : List (Nat × Instr × Nat) := [(0, .aload_n 0, 1), (1, .invokespecial 3, 3), (4, .aload_n 0, 1), (5, .new 9, 3), (8, .dup, 1), (9, .invokespecial 11, 3), (12, .putfield 12, 3), (15, .aload_n 0, 1), (16, .new 18, 3), (19, .dup, 1), (20, .invokespecial 20, 3), (23, .putfield 21, 3), (26, .aload_n 0, 1), (27, .bipush 6, 2), (29, .newarray .int, 2), (31, .dup, 1), (32, .iconst 0, 1), (33, .iconst 0, 1), (34, .iastore, 1), (35, .dup, 1), (36, .iconst 1, 1), (37, .iconst 1, 1), (38, .iastore, 1), (39, .dup, 1), (40, .iconst 2, 1), (41, .iconst 2, 1), (42, .iastore, 1), (43, .dup, 1), (44, .iconst 3, 1), (45, .iconst 3, 1), (46, .iastore, 1), (47, .dup, 1), (48, .iconst 4, 1), (49, .iconst 4, 1), (50, .iastore, 1), (51, .dup, 1), (52, .iconst 5, 1), (53, .iconst 5, 1), (54, .iastore, 1), (55, .putfield 25, 3), (58, .return_, 1)]
def inX9_copyFrom : List (Nat × Instr × Nat) := [(0, .aload_n 0, 1), (1, .getfield 12, 3), (4, .aload_n 1, 1), (5, .getfield 12, 3), (8, .invokevirtual 29, 3), (11, .aload_n 0, 1), (12, .getfield 21, 3), (15, .aload_n 1, 1), (16, .getfield 21, 3), (19, .invokevirtual 33, 3), (22, .aload_n 1, 1), (23, .getfield 25, 3), (26, .iconst 0, 1), (27, .aload_n 0, 1), (28, .getfield 25, 3), (31, .iconst 0, 1), (32, .bipush 6, 2), (34, .invokestatic 36, 3), (37, .return_, 1)]
def inX9_signProperty : List (Nat × Instr × Nat) := [(0, .iload_n 2, 1), (1, .iconst 5, 1), (2, .if_icmp .ne 14, 3), (5, .aload_n 0, 1), (6, .getfield 21, 3), (9, .iload_n 1, 1), (10, .invokevirtual 42, 3), (13, .goto 12, 3), (16, .aload_n 0, 1), (17, .getfield 12, 3), (20, .iload_n 1, 1), (21, .iload_n 2, 1), (22, .invokevirtual 46, 3), (25, .ireturn, 1)]
def inX9_sortOfWord : List (Nat × Instr × Nat) := [(0, .aload_n 0, 1), (1, .getfield 12, 3), (4, .aload_n 0, 1), (5, .getfield 21, 3), (8, .iload_n 1, 1), (9, .invokevirtual 50, 3), (12, .iconst 4, 1), (13, .invokevirtual 46, 3), (16, .ireturn, 1)]
def inX9_removeSign : List (Nat × Instr × Nat) := [(0, .aload_n 0, 1), (1, .getfield 12, 3), (4, .iload_n 1, 1), (5, .invokevirtual 53, 3), (8, .ifCond .ne 6, 3), (11, .bipush (-2), 2), (13, .ireturn, 1), (14, .aload_n 0, 1), (15, .getfield 21, 3), (18, .iload_n 1, 1), (19, .invokevirtual 42, 3), (22, .ifCond .le 6, 3), (25, .bipush (-3), 2), (27, .ireturn, 1), (28, .aload_n 0, 1), (29, .getfield 21, 3), (32, .iload_n 1, 1), (33, .invokevirtual 57, 3), (36, .aload_n 0, 1), (37, .getfield 12, 3), (40, .iload_n 1, 1), (41, .invokevirtual 61, 3), (44, .ireturn, 1)]
def inX9_addWord : List (Nat × Instr × Nat) := [(0, .aload_n 0, 1), (1, .getfield 12, 3), (4, .iload_n 1, 1), (5, .invokevirtual 53, 3), (8, .ifCond .eq 21, 3), (11, .iload_n 2, 1), (12, .iconst (-1), 1), (13, .iconst 5, 1), (14, .invokestatic 64, 3), (17, .ifCond .eq 12, 3), (20, .iload_n 3, 1), (21, .iconst (-1), 1), (22, .iconst 5, 1), (23, .invokestatic 64, 3), (26, .ifCond .ne 6, 3), (29, .bipush (-2), 2), (31, .ireturn, 1), (32, .aload_n 0, 1), (33, .getfield 21, 3), (36, .iload_n 1, 1), (37, .iload_n 2, 1), (38, .iload_n 3, 1), (39, .invokevirtual 68, 3), (42, .ireturn, 1)]
def inX9_layOne : List (Nat × Instr × Nat) := [(0, .iload_n 1, 1), (1, .invokestatic 72, 3), (4, .ifCond .eq 12, 3), (7, .iload_n 2, 1), (8, .iconst 0, 1), (9, .iconst 5, 1), (10, .invokestatic 64, 3), (13, .ifCond .ne 6, 3), (16, .bipush (-2), 2), (18, .ireturn, 1), (19, .aload_n 0, 1), (20, .getfield 25, 3), (23, .iload_n 1, 1), (24, .iaload, 1), (25, .istore_n 3, 1), (26, .iconst 0, 1), (27, .istore 4, 2), (29, .iload 4, 2), (31, .bipush 6, 2), (33, .if_icmp .ge 28, 3), (36, .aload_n 0, 1), (37, .getfield 25, 3), (40, .iload 4, 2), (42, .iaload, 1), (43, .iload_n 2, 1), (44, .if_icmp .ne 11, 3), (47, .aload_n 0, 1), (48, .getfield 25, 3), (51, .iload 4, 2), (53, .iload_n 3, 1), (54, .iastore, 1), (55, .iinc 4 1, 3), (58, .goto (-29), 3), (61, .aload_n 0, 1), (62, .getfield 25, 3), (65, .iload_n 1, 1), (66, .iload_n 2, 1), (67, .iastore, 1), (68, .iload_n 3, 1), (69, .ireturn, 1)]
def inX9_layAll : List (Nat × Instr × Nat) := [(0, .iconst 0, 1), (1, .istore_n 3, 1), (2, .iconst 0, 1), (3, .istore 4, 2), (5, .iload 4, 2), (7, .bipush 6, 2), (9, .if_icmp .ge 48, 3), (12, .aload_n 1, 1), (13, .iload_n 2, 1), (14, .iload 4, 2), (16, .invokevirtual 75, 3), (19, .istore 5, 2), (21, .iload 5, 2), (23, .iconst 0, 1), (24, .iconst 5, 1), (25, .invokestatic 64, 3), (28, .ifCond .eq 13, 3), (31, .iload_n 3, 1), (32, .iload 5, 2), (34, .ishr, 1), (35, .iconst 1, 1), (36, .iand, 1), (37, .iconst 1, 1), (38, .if_icmp .ne 6, 3), (41, .bipush (-2), 2), (43, .ireturn, 1), (44, .iload_n 3, 1), (45, .iconst 1, 1), (46, .iload 5, 2), (48, .ishl, 1), (49, .ior, 1), (50, .istore_n 3, 1), (51, .iinc 4 1, 3), (54, .goto (-49), 3), (57, .iconst 0, 1), (58, .istore 4, 2), (60, .iload 4, 2), (62, .bipush 6, 2), (64, .if_icmp .ge 23, 3), (67, .aload_n 0, 1), (68, .getfield 25, 3), (71, .iload 4, 2), (73, .aload_n 1, 1), (74, .iload_n 2, 1), (75, .iload 4, 2), (77, .invokevirtual 75, 3), (80, .iastore, 1), (81, .iinc 4 1, 3), (84, .goto (-24), 3), (87, .iconst 0, 1), (88, .ireturn, 1)]
def inX10_init : List (Nat × Instr × Nat) := [(0, .aload_n 0, 1), (1, .invokespecial 3, 3), (4, .aload_n 0, 1), (5, .iconst 0, 1), (6, .putfield 9, 3), (9, .aload_n 0, 1), (10, .iconst 0, 1), (11, .putfield 15, 3), (14, .return_, 1)]
def inX10_check : List (Nat × Instr × Nat) := [(0, .aload_n 0, 1), (1, .iconst 0, 1), (2, .putfield 9, 3), (5, .aload_n 0, 1), (6, .iconst 0, 1), (7, .putfield 15, 3), (10, .iconst 0, 1), (11, .istore_n 2, 1), (12, .iconst 0, 1), (13, .istore_n 3, 1), (14, .iconst 0, 1), (15, .istore 4, 2), (17, .iload 4, 2), (19, .aload_n 1, 1), (20, .getfield 18, 3), (23, .getfield 24, 3), (26, .if_icmp .ge 69, 3), (29, .aload_n 1, 1), (30, .iload 4, 2), (32, .invokevirtual 29, 3), (35, .istore 5, 2), (37, .iload 5, 2), (39, .iconst 3, 1), (40, .if_icmp .ne 20, 3), (43, .aload_n 0, 1), (44, .dup, 1), (45, .getfield 15, 3), (48, .iload_n 3, 1), (49, .iadd, 1), (50, .putfield 15, 3), (53, .iconst 0, 1), (54, .istore_n 3, 1), (55, .iconst 0, 1), (56, .istore_n 2, 1), (57, .goto 32, 3), (60, .iload 5, 2), (62, .ifCond .ne 24, 3), (65, .aload_n 0, 1), (66, .dup, 1), (67, .getfield 9, 3), (70, .iload_n 2, 1), (71, .iadd, 1), (72, .putfield 9, 3), (75, .iload_n 3, 1), (76, .iconst 1, 1), (77, .iadd, 1), (78, .iload_n 2, 1), (79, .invokestatic 33, 3), (82, .istore_n 3, 1), (83, .goto 6, 3), (86, .iinc 2 1, 3), (89, .iinc 4 1, 3), (92, .goto (-75), 3), (95, .aload_n 0, 1), (96, .dup, 1), (97, .getfield 15, 3), (100, .iload_n 3, 1), (101, .iadd, 1), (102, .putfield 15, 3), (105, .return_, 1)]
def inX11_init : List (Nat × Instr × Nat) := [(0, .aload_n 0, 1), (1, .invokespecial 1, 3), (4, .aload_n 0, 1), (5, .new 7, 3), (8, .dup, 1), (9, .invokespecial 9, 3), (12, .putfield 10, 3), (15, .aload_n 0, 1), (16, .new 16, 3), (19, .dup, 1), (20, .invokespecial 18, 3), (23, .putfield 19, 3), (26, .aload_n 0, 1), (27, .new 23, 3), (30, .dup, 1), (31, .invokespecial 25, 3), (34, .putfield 26, 3), (37, .aload_n 0, 1), (38, .new 30, 3), (41, .dup, 1), (42, .invokespecial 32, 3), (45, .putfield 33, 3), (48, .aload_n 0, 1), (49, .new 37, 3), (52, .dup, 1), (53, .invokespecial 39, 3), (56, .putfield 40, 3), (59, .aload_n 0, 1), (60, .new 44, 3), (63, .dup, 1), (64, .invokespecial 46, 3), (67, .putfield 47, 3), (70, .aload_n 0, 1), (71, .new 51, 3), (74, .dup, 1), (75, .invokespecial 53, 3), (78, .putfield 54, 3), (81, .aload_n 0, 1), (82, .new 58, 3), (85, .dup, 1), (86, .invokespecial 60, 3), (89, .putfield 61, 3), (92, .aload_n 0, 1), (93, .new 65, 3), (96, .dup, 1), (97, .invokespecial 67, 3), (100, .putfield 68, 3), (103, .aload_n 0, 1), (104, .iconst 3, 1), (105, .newarray .int, 2), (107, .putfield 72, 3), (110, .return_, 1)]
def inX11_sign : List (Nat × Instr × Nat) := [(0, .aload_n 0, 1), (1, .getfield 19, 3), (4, .aload_n 0, 1), (5, .getfield 10, 3), (8, .invokevirtual 76, 3), (11, .aload_n 0, 1), (12, .aload_n 0, 1), (13, .getfield 10, 3), (16, .getfield 80, 3), (19, .iload_n 1, 1), (20, .iload_n 2, 1), (21, .iload_n 3, 1), (22, .iload 4, 2), (24, .iload 5, 2), (26, .invokevirtual 84, 3), (29, .invokevirtual 90, 3), (32, .ireturn, 1)]
def inX11_becomes : List (Nat × Instr × Nat) := [(0, .aload_n 0, 1), (1, .getfield 19, 3), (4, .aload_n 0, 1), (5, .getfield 10, 3), (8, .invokevirtual 76, 3), (11, .aload_n 0, 1), (12, .aload_n 0, 1), (13, .getfield 10, 3), (16, .getfield 80, 3), (19, .iload_n 1, 1), (20, .iload_n 2, 1), (21, .iload_n 3, 1), (22, .invokevirtual 94, 3), (25, .invokevirtual 90, 3), (28, .ireturn, 1)]
def inX11_drops : List (Nat × Instr × Nat) := [(0, .aload_n 0, 1), (1, .getfield 19, 3), (4, .aload_n 0, 1), (5, .getfield 10, 3), (8, .invokevirtual 76, 3), (11, .aload_n 0, 1), (12, .aload_n 0, 1), (13, .getfield 10, 3), (16, .iload_n 1, 1), (17, .invokevirtual 98, 3), (20, .invokevirtual 90, 3), (23, .ireturn, 1)]
def inX11_weight : List (Nat × Instr × Nat) := [(0, .aload_n 0, 1), (1, .getfield 19, 3), (4, .aload_n 0, 1), (5, .getfield 10, 3), (8, .invokevirtual 76, 3), (11, .aload_n 0, 1), (12, .aload_n 0, 1), (13, .getfield 10, 3), (16, .getfield 80, 3), (19, .iload_n 1, 1), (20, .iload_n 2, 1), (21, .invokevirtual 101, 3), (24, .invokevirtual 90, 3), (27, .ireturn, 1)]
def inX11_draws : List (Nat × Instr × Nat) := [(0, .aload_n 0, 1), (1, .getfield 19, 3), (4, .aload_n 0, 1), (5, .getfield 10, 3), (8, .invokevirtual 76, 3), (11, .aload_n 0, 1), (12, .aload_n 0, 1), (13, .getfield 10, 3), (16, .getfield 80, 3), (19, .iload_n 1, 1), (20, .iload_n 2, 1), (21, .invokevirtual 105, 3), (24, .invokevirtual 90, 3), (27, .ireturn, 1)]
def inX11_of : List (Nat × Instr × Nat) := [(0, .aload_n 0, 1), (1, .getfield 10, 3), (4, .getfield 80, 3), (7, .iload_n 1, 1), (8, .invokevirtual 108, 3), (11, .ifCond .eq 12, 3), (14, .iload_n 2, 1), (15, .iconst 0, 1), (16, .iconst 5, 1), (17, .invokestatic 112, 3), (20, .ifCond .ne 10, 3), (23, .aload_n 0, 1), (24, .bipush (-2), 2), (26, .invokevirtual 116, 3), (29, .ireturn, 1), (30, .aload_n 0, 1), (31, .getfield 10, 3), (34, .iload_n 1, 1), (35, .iload_n 2, 1), (36, .invokevirtual 119, 3), (39, .ireturn, 1)]
def inX11_apart : List (Nat × Instr × Nat) := [(0, .aload_n 0, 1), (1, .getfield 10, 3), (4, .getfield 80, 3), (7, .iload_n 1, 1), (8, .invokevirtual 108, 3), (11, .ifCond .eq 26, 3), (14, .aload_n 0, 1), (15, .getfield 10, 3), (18, .getfield 80, 3), (21, .iload_n 2, 1), (22, .invokevirtual 108, 3), (25, .ifCond .eq 12, 3), (28, .iload_n 3, 1), (29, .iconst 0, 1), (30, .iconst 4, 1), (31, .invokestatic 112, 3), (34, .ifCond .ne 10, 3), (37, .aload_n 0, 1), (38, .bipush (-2), 2), (40, .invokevirtual 116, 3), (43, .ireturn, 1), (44, .iload_n 3, 1), (45, .iconst 4, 1), (46, .if_icmp .ne 18, 3), (49, .aload_n 0, 1), (50, .getfield 10, 3), (53, .getfield 80, 3), (56, .iload_n 1, 1), (57, .iload_n 2, 1), (58, .invokevirtual 122, 3), (61, .goto 16, 3), (64, .aload_n 0, 1), (65, .getfield 10, 3), (68, .getfield 80, 3), (71, .iload_n 3, 1), (72, .iload_n 1, 1), (73, .iload_n 2, 1), (74, .invokevirtual 125, 3), (77, .ireturn, 1)]
def inX11_look : List (Nat × Instr × Nat) := [(0, .iload_n 1, 1), (1, .iload_n 2, 1), (2, .iload_n 3, 1), (3, .iload 4, 2), (5, .iconst (-1), 1), (6, .invokestatic 128, 3), (9, .ifCond .ne 10, 3), (12, .aload_n 0, 1), (13, .bipush (-2), 2), (15, .invokevirtual 116, 3), (18, .ireturn, 1), (19, .aload_n 0, 1), (20, .getfield 10, 3), (23, .getfield 80, 3), (26, .iload_n 1, 1), (27, .iload_n 2, 1), (28, .iload_n 3, 1), (29, .iload 4, 2), (31, .invokevirtual 132, 3), (34, .aload_n 0, 1), (35, .getfield 10, 3), (38, .getfield 80, 3), (41, .invokevirtual 136, 3), (44, .ireturn, 1)]
def inX11_near : List (Nat × Instr × Nat) := [(0, .aload_n 0, 1), (1, .getfield 10, 3), (4, .getfield 80, 3), (7, .iload_n 1, 1), (8, .invokevirtual 108, 3), (11, .ifCond .eq 13, 3), (14, .iload_n 2, 1), (15, .iconst 0, 1), (16, .bipush 99, 2), (18, .invokestatic 112, 3), (21, .ifCond .ne 10, 3), (24, .aload_n 0, 1), (25, .bipush (-2), 2), (27, .invokevirtual 116, 3), (30, .ireturn, 1), (31, .aload_n 0, 1), (32, .getfield 10, 3), (35, .getfield 80, 3), (38, .iload_n 1, 1), (39, .iload_n 2, 1), (40, .invokevirtual 140, 3), (43, .ireturn, 1)]
def inX11_nearest : List (Nat × Instr × Nat) := [(0, .iload_n 1, 1), (1, .iload_n 2, 1), (2, .iload_n 3, 1), (3, .iload 4, 2), (5, .iconst 0, 1), (6, .invokestatic 128, 3), (9, .ifCond .ne 10, 3), (12, .aload_n 0, 1), (13, .bipush (-2), 2), (15, .invokevirtual 116, 3), (18, .ireturn, 1), (19, .aload_n 0, 1), (20, .getfield 10, 3), (23, .getfield 80, 3), (26, .iload_n 1, 1), (27, .iload_n 2, 1), (28, .iload_n 3, 1), (29, .iload 4, 2), (31, .invokevirtual 132, 3), (34, .aload_n 0, 1), (35, .getfield 10, 3), (38, .getfield 80, 3), (41, .invokevirtual 143, 3), (44, .ireturn, 1)]
def inX11_sorts : List (Nat × Instr × Nat) := [(0, .iload_n 1, 1), (1, .iconst 0, 1), (2, .iconst 3, 1), (3, .invokestatic 112, 3), (6, .ifCond .ne 10, 3), (9, .aload_n 0, 1), (10, .bipush (-2), 2), (12, .invokevirtual 116, 3), (15, .ireturn, 1), (16, .aload_n 0, 1), (17, .getfield 10, 3), (20, .getfield 80, 3), (23, .iload_n 1, 1), (24, .invokevirtual 146, 3), (27, .ireturn, 1)]
def inX11_groups : List (Nat × Instr × Nat) := [(0, .iload_n 1, 1), (1, .iconst 0, 1), (2, .bipush 99, 2), (4, .invokestatic 112, 3), (7, .ifCond .eq 12, 3), (10, .iload_n 2, 1), (11, .iconst 0, 1), (12, .iconst 1, 1), (13, .invokestatic 112, 3), (16, .ifCond .ne 10, 3), (19, .aload_n 0, 1), (20, .bipush (-2), 2), (22, .invokevirtual 116, 3), (25, .ireturn, 1), (26, .aload_n 0, 1), (27, .getfield 61, 3), (30, .aload_n 0, 1), (31, .getfield 10, 3), (34, .getfield 80, 3), (37, .iload_n 1, 1), (38, .invokevirtual 149, 3), (41, .iload_n 2, 1), (42, .ifCond .ne 13, 3), (45, .aload_n 0, 1), (46, .getfield 61, 3), (49, .invokevirtual 153, 3), (52, .goto 10, 3), (55, .aload_n 0, 1), (56, .getfield 61, 3), (59, .invokevirtual 156, 3), (62, .ireturn, 1)]
def inX11_twins : List (Nat × Instr × Nat) := [(0, .iload_n 1, 1), (1, .iconst (-1), 1), (2, .iconst 3, 1), (3, .invokestatic 112, 3), (6, .ifCond .ne 10, 3), (9, .aload_n 0, 1), (10, .bipush (-2), 2), (12, .invokevirtual 116, 3), (15, .ireturn, 1), (16, .aload_n 0, 1), (17, .getfield 68, 3), (20, .aload_n 0, 1), (21, .getfield 10, 3), (24, .getfield 80, 3), (27, .invokevirtual 159, 3), (30, .aload_n 0, 1), (31, .getfield 68, 3), (34, .iload_n 1, 1), (35, .invokevirtual 163, 3), (38, .ireturn, 1)]
def inX11_enough : List (Nat × Instr × Nat) := [(0, .iload_n 1, 1), (1, .iconst (-1), 1), (2, .bipush 15, 2), (4, .invokestatic 112, 3), (7, .ifCond .ne 10, 3), (10, .aload_n 0, 1), (11, .bipush (-2), 2), (13, .invokevirtual 116, 3), (16, .ireturn, 1), (17, .aload_n 0, 1), (18, .getfield 68, 3), (21, .aload_n 0, 1), (22, .getfield 10, 3), (25, .getfield 80, 3), (28, .invokevirtual 159, 3), (31, .iload_n 1, 1), (32, .iconst (-1), 1), (33, .if_icmp .ne 11, 3), (36, .aload_n 0, 1), (37, .getfield 68, 3), (40, .invokevirtual 166, 3), (43, .ireturn, 1), (44, .aload_n 0, 1), (45, .getfield 68, 3), (48, .iload_n 1, 1), (49, .invokevirtual 169, 3), (52, .ifCond .eq 7, 3), (55, .iconst 1, 1), (56, .goto 4, 3), (59, .iconst 0, 1), (60, .ireturn, 1)]
def inX11_span : List (Nat × Instr × Nat) := [(0, .iload_n 1, 1), (1, .iconst 0, 1), (2, .iconst 3, 1), (3, .invokestatic 112, 3), (6, .ifCond .ne 10, 3), (9, .aload_n 0, 1), (10, .bipush (-2), 2), (12, .invokevirtual 116, 3), (15, .ireturn, 1), (16, .iload_n 1, 1), (17, .iconst 2, 1), (18, .irem, 1), (19, .ifCond .ne 7, 3), (22, .iconst 1, 1), (23, .goto 4, 3), (26, .iconst 0, 1), (27, .istore_n 2, 1), (28, .aload_n 0, 1), (29, .getfield 10, 3), (32, .getfield 80, 3), (35, .iload_n 2, 1), (36, .invokevirtual 172, 3), (39, .istore_n 3, 1), (40, .iload_n 3, 1), (41, .iconst (-1), 1), (42, .if_icmp .eq 8, 3), (45, .iload_n 1, 1), (46, .iconst 2, 1), (47, .if_icmp .lt 5, 3), (50, .iload_n 3, 1), (51, .ireturn, 1), (52, .aload_n 0, 1), (53, .getfield 10, 3), (56, .getfield 80, 3), (59, .iload_n 3, 1), (60, .bipush 16, 2), (62, .idiv, 1), (63, .iload_n 3, 1), (64, .bipush 16, 2), (66, .irem, 1), (67, .invokevirtual 122, 3), (70, .ireturn, 1)]
def inX11_word : List (Nat × Instr × Nat) := [(0, .aload_n 0, 1), (1, .getfield 19, 3), (4, .aload_n 0, 1), (5, .getfield 10, 3), (8, .invokevirtual 76, 3), (11, .aload_n 0, 1), (12, .aload_n 0, 1), (13, .getfield 10, 3), (16, .iload_n 1, 1), (17, .iload_n 2, 1), (18, .iload_n 3, 1), (19, .invokevirtual 176, 3), (22, .invokevirtual 90, 3), (25, .ireturn, 1)]
def inX11_cuts : List (Nat × Instr × Nat) := [(0, .aload_n 0, 1), (1, .getfield 19, 3), (4, .aload_n 0, 1), (5, .getfield 10, 3), (8, .invokevirtual 76, 3), (11, .aload_n 0, 1), (12, .aload_n 0, 1), (13, .getfield 10, 3), (16, .getfield 179, 3), (19, .iload_n 1, 1), (20, .invokevirtual 183, 3), (23, .invokevirtual 90, 3), (26, .ireturn, 1)]
def inX11_shifts : List (Nat × Instr × Nat) := [(0, .aload_n 0, 1), (1, .getfield 19, 3), (4, .aload_n 0, 1), (5, .getfield 10, 3), (8, .invokevirtual 76, 3), (11, .aload_n 0, 1), (12, .aload_n 0, 1), (13, .getfield 10, 3), (16, .getfield 179, 3), (19, .iload_n 1, 1), (20, .iload_n 2, 1), (21, .invokevirtual 188, 3), (24, .invokevirtual 90, 3), (27, .ireturn, 1)]
def inX11_clears : List (Nat × Instr × Nat) := [(0, .aload_n 0, 1), (1, .getfield 19, 3), (4, .aload_n 0, 1), (5, .getfield 10, 3), (8, .invokevirtual 76, 3), (11, .aload_n 0, 1), (12, .aload_n 0, 1), (13, .getfield 10, 3), (16, .getfield 179, 3), (19, .invokevirtual 191, 3), (22, .invokevirtual 90, 3), (25, .ireturn, 1)]
def inX11_wordOf : List (Nat × Instr × Nat) := [(0, .aload_n 0, 1), (1, .getfield 10, 3), (4, .getfield 179, 3), (7, .iload_n 1, 1), (8, .invokevirtual 194, 3), (11, .ifCond .eq 13, 3), (14, .iload_n 2, 1), (15, .iconst 0, 1), (16, .bipush 6, 2), (18, .invokestatic 112, 3), (21, .ifCond .ne 10, 3), (24, .aload_n 0, 1), (25, .bipush (-2), 2), (27, .invokevirtual 116, 3), (30, .ireturn, 1), (31, .aload_n 0, 1), (32, .getfield 33, 3), (35, .aload_n 0, 1), (36, .getfield 10, 3), (39, .bipush 16, 2), (41, .invokevirtual 195, 3), (44, .aload_n 0, 1), (45, .iload_n 1, 1), (46, .iload_n 2, 1), (47, .invokevirtual 199, 3), (50, .ireturn, 1)]
def inX11_at : List (Nat × Instr × Nat) := [(0, .iload_n 1, 1), (1, .invokestatic 202, 3), (4, .ifCond .eq 13, 3), (7, .iload_n 2, 1), (8, .iconst 0, 1), (9, .bipush 16, 2), (11, .invokestatic 112, 3), (14, .ifCond .ne 10, 3), (17, .aload_n 0, 1), (18, .bipush (-2), 2), (20, .invokevirtual 116, 3), (23, .ireturn, 1), (24, .aload_n 0, 1), (25, .getfield 33, 3), (28, .aload_n 0, 1), (29, .getfield 10, 3), (32, .iload_n 2, 1), (33, .invokevirtual 195, 3), (36, .aload_n 0, 1), (37, .getfield 33, 3), (40, .iload_n 1, 1), (41, .invokevirtual 205, 3), (44, .ireturn, 1)]
def inX11_all : List (Nat × Instr × Nat) := [(0, .iload_n 1, 1), (1, .iconst 0, 1), (2, .bipush 6, 2), (4, .invokestatic 112, 3), (7, .ifCond .ne 10, 3), (10, .aload_n 0, 1), (11, .bipush (-2), 2), (13, .invokevirtual 116, 3), (16, .ireturn, 1), (17, .aload_n 0, 1), (18, .invokevirtual 208, 3), (21, .aload_n 0, 1), (22, .iload_n 1, 1), (23, .invokevirtual 211, 3), (26, .ireturn, 1)]
def inX11_lays : List (Nat × Instr × Nat) := [(0, .aload_n 0, 1), (1, .getfield 19, 3), (4, .aload_n 0, 1), (5, .getfield 10, 3), (8, .invokevirtual 76, 3), (11, .aload_n 0, 1), (12, .aload_n 0, 1), (13, .getfield 10, 3), (16, .iload_n 1, 1), (17, .iload_n 2, 1), (18, .invokevirtual 214, 3), (21, .invokevirtual 90, 3), (24, .ireturn, 1)]
def inX11_lay : List (Nat × Instr × Nat) := [(0, .iload_n 1, 1), (1, .invokestatic 202, 3), (4, .ifCond .eq 15, 3), (7, .aload_n 0, 1), (8, .getfield 10, 3), (11, .getfield 217, 3), (14, .iload_n 1, 1), (15, .iaload, 1), (16, .goto 9, 3), (19, .aload_n 0, 1), (20, .bipush (-2), 2), (22, .invokevirtual 116, 3), (25, .ireturn, 1)]
def inX11_best : List (Nat × Instr × Nat) := [(0, .iload_n 1, 1), (1, .iconst (-1), 1), (2, .iconst 5, 1), (3, .invokestatic 112, 3), (6, .ifCond .ne 10, 3), (9, .aload_n 0, 1), (10, .bipush (-2), 2), (12, .invokevirtual 116, 3), (15, .ireturn, 1), (16, .aload_n 0, 1), (17, .invokevirtual 220, 3), (20, .iload_n 1, 1), (21, .iconst (-1), 1), (22, .if_icmp .ne 13, 3), (25, .aload_n 0, 1), (26, .getfield 54, 3), (29, .getfield 223, 3), (32, .goto 12, 3), (35, .aload_n 0, 1), (36, .getfield 54, 3), (39, .getfield 227, 3), (42, .iload_n 1, 1), (43, .iaload, 1), (44, .ireturn, 1)]
def inX11_settles : List (Nat × Instr × Nat) := [(0, .aload_n 0, 1), (1, .getfield 19, 3), (4, .aload_n 0, 1), (5, .getfield 10, 3), (8, .invokevirtual 76, 3), (11, .aload_n 0, 1), (12, .invokevirtual 220, 3), (15, .aload_n 0, 1), (16, .getfield 47, 3), (19, .aload_n 0, 1), (20, .getfield 10, 3), (23, .getfield 217, 3), (26, .invokevirtual 230, 3), (29, .istore_n 1, 1), (30, .aload_n 0, 1), (31, .getfield 54, 3), (34, .getfield 227, 3), (37, .iconst 0, 1), (38, .aload_n 0, 1), (39, .getfield 10, 3), (42, .getfield 217, 3), (45, .iconst 0, 1), (46, .bipush 6, 2), (48, .invokestatic 234, 3), (51, .aload_n 0, 1), (52, .iload_n 1, 1), (53, .aload_n 0, 1), (54, .getfield 54, 3), (57, .getfield 223, 3), (60, .isub, 1), (61, .invokevirtual 90, 3), (64, .ireturn, 1)]
def inX11_type : List (Nat × Instr × Nat) := [(0, .aload_n 0, 1), (1, .aload_n 0, 1), (2, .getfield 26, 3), (5, .iload_n 1, 1), (6, .invokevirtual 240, 3), (9, .invokevirtual 116, 3), (12, .ireturn, 1)]
def inX11_clear : List (Nat × Instr × Nat) := [(0, .aload_n 0, 1), (1, .getfield 26, 3), (4, .invokevirtual 243, 3), (7, .ireturn, 1)]
def inX11_reads : List (Nat × Instr × Nat) := [(0, .aload_n 0, 1), (1, .getfield 26, 3), (4, .invokevirtual 246, 3), (7, .istore_n 1, 1), (8, .iload_n 1, 1), (9, .iconst (-1), 1), (10, .if_icmp .eq 8, 3), (13, .bipush (-10), 2), (15, .iload_n 1, 1), (16, .isub, 1), (17, .ireturn, 1), (18, .aload_n 0, 1), (19, .getfield 19, 3), (22, .aload_n 0, 1), (23, .getfield 10, 3), (26, .invokevirtual 76, 3), (29, .iconst 0, 1), (30, .istore_n 2, 1), (31, .iload_n 2, 1), (32, .aload_n 0, 1), (33, .getfield 26, 3), (36, .getfield 249, 3), (39, .if_icmp .ge 34, 3), (42, .aload_n 0, 1), (43, .iload_n 2, 1), (44, .invokevirtual 252, 3), (47, .ifCond .ge 20, 3), (50, .aload_n 0, 1), (51, .getfield 19, 3), (54, .aload_n 0, 1), (55, .getfield 10, 3), (58, .invokevirtual 255, 3), (61, .sipush (-1000), 3), (64, .iload_n 2, 1), (65, .isub, 1), (66, .ireturn, 1), (67, .iinc 2 1, 3), (70, .goto (-39), 3), (73, .aload_n 0, 1), (74, .aload_n 0, 1), (75, .getfield 26, 3), (78, .getfield 249, 3), (81, .invokevirtual 90, 3), (84, .ireturn, 1)]
def inX11_back : List (Nat × Instr × Nat) := [(0, .aload_n 0, 1), (1, .aload_n 0, 1), (2, .getfield 19, 3), (5, .aload_n 0, 1), (6, .getfield 10, 3), (9, .invokevirtual 258, 3), (12, .invokevirtual 116, 3), (15, .ireturn, 1)]
def inX11_told : List (Nat × Instr × Nat) := [(0, .iload_n 1, 1), (1, .iconst 0, 1), (2, .bipush 10, 2), (4, .invokestatic 112, 3), (7, .ifCond .eq 11, 3), (10, .aload_n 0, 1), (11, .iload_n 1, 1), (12, .invokevirtual 262, 3), (15, .goto 9, 3), (18, .aload_n 0, 1), (19, .bipush (-2), 2), (21, .invokevirtual 116, 3), (24, .ireturn, 1)]
def inX11_digest : List (Nat × Instr × Nat) := [(0, .aload_n 0, 1), (1, .invokevirtual 208, 3), (4, .aload_n 0, 1), (5, .invokevirtual 220, 3), (8, .aload_n 0, 1), (9, .getfield 68, 3), (12, .aload_n 0, 1), (13, .getfield 10, 3), (16, .getfield 80, 3), (19, .invokevirtual 159, 3), (22, .ldc2_w 265, 3), (25, .lstore_n 1, 1), (26, .iconst 0, 1), (27, .istore_n 3, 1), (28, .iload_n 3, 1), (29, .bipush 10, 2), (31, .if_icmp .gt 19, 3), (34, .lload_n 1, 1), (35, .aload_n 0, 1), (36, .iload_n 3, 1), (37, .invokevirtual 262, 3), (40, .invokestatic 267, 3), (43, .lstore_n 1, 1), (44, .iinc 3 1, 3), (47, .goto (-19), 3), (50, .aload_n 0, 1), (51, .lload_n 1, 1), (52, .invokevirtual 271, 3), (55, .lstore_n 1, 1), (56, .aload_n 0, 1), (57, .lload_n 1, 1), (58, .invokevirtual 275, 3), (61, .lstore_n 1, 1), (62, .iconst 0, 1), (63, .istore_n 3, 1), (64, .iload_n 3, 1), (65, .bipush 6, 2), (67, .if_icmp .gt 19, 3), (70, .lload_n 1, 1), (71, .aload_n 0, 1), (72, .iload_n 3, 1), (73, .invokevirtual 211, 3), (76, .invokestatic 267, 3), (79, .lstore_n 1, 1), (80, .iinc 3 1, 3), (83, .goto (-19), 3), (86, .iconst 0, 1), (87, .istore_n 3, 1), (88, .iload_n 3, 1), (89, .bipush 6, 2), (91, .if_icmp .ge 23, 3), (94, .lload_n 1, 1), (95, .aload_n 0, 1), (96, .getfield 10, 3), (99, .getfield 217, 3), (102, .iload_n 3, 1), (103, .iaload, 1), (104, .invokestatic 267, 3), (107, .lstore_n 1, 1), (108, .iinc 3 1, 3), (111, .goto (-23), 3), (114, .lload_n 1, 1), (115, .aload_n 0, 1), (116, .getfield 54, 3), (119, .getfield 223, 3), (122, .invokestatic 267, 3), (125, .lstore_n 1, 1), (126, .lload_n 1, 1), (127, .aload_n 0, 1), (128, .getfield 68, 3), (131, .iconst (-1), 1), (132, .invokevirtual 163, 3), (135, .invokestatic 267, 3), (138, .lstore_n 1, 1), (139, .lload_n 1, 1), (140, .aload_n 0, 1), (141, .getfield 68, 3), (144, .invokevirtual 166, 3), (147, .invokestatic 267, 3), (150, .lreturn, 1)]
def inX11_isWithin : List (Nat × Instr × Nat) := [(0, .iload_n 0, 1), (1, .iload_n 1, 1), (2, .if_icmp .lt 12, 3), (5, .iload_n 0, 1), (6, .iload_n 2, 1), (7, .if_icmp .gt 7, 3), (10, .iconst 1, 1), (11, .goto 4, 3), (14, .iconst 0, 1), (15, .ireturn, 1)]
def inX11_areWithin : List (Nat × Instr × Nat) := [(0, .bipush 7, 2), (2, .istore 5, 2), (4, .iload_n 0, 1), (5, .iload 4, 2), (7, .iload 5, 2), (9, .invokestatic 112, 3), (12, .ifCond .eq 40, 3), (15, .iload_n 1, 1), (16, .iload 4, 2), (18, .iload 5, 2), (20, .invokestatic 112, 3), (23, .ifCond .eq 29, 3), (26, .iload_n 2, 1), (27, .iload 4, 2), (29, .iload 5, 2), (31, .invokestatic 112, 3), (34, .ifCond .eq 18, 3), (37, .iload_n 3, 1), (38, .iload 4, 2), (40, .iload 5, 2), (42, .invokestatic 112, 3), (45, .ifCond .eq 7, 3), (48, .iconst 1, 1), (49, .goto 4, 3), (52, .iconst 0, 1), (53, .ireturn, 1)]
def inX11_isSpot : List (Nat × Instr × Nat) := [(0, .iload_n 0, 1), (1, .iconst 0, 1), (2, .iconst 5, 1), (3, .invokestatic 112, 3), (6, .ireturn, 1)]
def inX11_counted : List (Nat × Instr × Nat) := [(0, .bipush (-2), 2), (2, .iload_n 1, 1), (3, .isub, 1), (4, .istore_n 2, 1), (5, .iload_n 2, 1), (6, .iconst 0, 1), (7, .iconst 2, 1), (8, .invokestatic 112, 3), (11, .ifCond .eq 13, 3), (14, .aload_n 0, 1), (15, .getfield 72, 3), (18, .iload_n 2, 1), (19, .dup2, 1), (20, .iaload, 1), (21, .iconst 1, 1), (22, .iadd, 1), (23, .iastore, 1), (24, .iload_n 1, 1), (25, .ireturn, 1)]
def inX11_undoable : List (Nat × Instr × Nat) := [(0, .iload_n 1, 1), (1, .ifCond .lt 10, 3), (4, .aload_n 0, 1), (5, .getfield 19, 3), (8, .invokevirtual 278, 3), (11, .aload_n 0, 1), (12, .iload_n 1, 1), (13, .invokevirtual 116, 3), (16, .ireturn, 1)]
def inX11_execute : List (Nat × Instr × Nat) := [(0, .aload_n 0, 1), (1, .getfield 26, 3), (4, .iload_n 1, 1), (5, .iconst 0, 1), (6, .invokevirtual 281, 3), (9, .istore_n 2, 1), (10, .aload_n 0, 1), (11, .getfield 26, 3), (14, .iload_n 1, 1), (15, .iconst 1, 1), (16, .invokevirtual 281, 3), (19, .istore_n 3, 1), (20, .aload_n 0, 1), (21, .getfield 26, 3), (24, .iload_n 1, 1), (25, .iconst 2, 1), (26, .invokevirtual 281, 3), (29, .istore 4, 2), (31, .aload_n 0, 1), (32, .getfield 26, 3), (35, .iload_n 1, 1), (36, .invokevirtual 283, 3), (39, .lookupswitch 173 #[(99, 162), (100, 153), (103, 127), (108, 140), (115, 57), (119, 90)], 57), (96, .aload_n 0, 1), (97, .getfield 10, 3), (100, .getfield 80, 3), (103, .iload_n 2, 1), (104, .iload_n 3, 1), (105, .iload 4, 2), (107, .aload_n 0, 1), (108, .getfield 26, 3), (111, .iload_n 1, 1), (112, .iconst 3, 1), (113, .invokevirtual 281, 3), (116, .aload_n 0, 1), (117, .getfield 26, 3), (120, .iload_n 1, 1), (121, .iconst 4, 1), (122, .invokevirtual 281, 3), (125, .invokevirtual 84, 3), (128, .ireturn, 1), (129, .aload_n 0, 1), (130, .getfield 26, 3), (133, .iload_n 1, 1), (134, .invokevirtual 286, 3), (137, .iconst 2, 1), (138, .if_icmp .ne 16, 3), (141, .aload_n 0, 1), (142, .getfield 10, 3), (145, .iload_n 2, 1), (146, .iconst (-1), 1), (147, .iload_n 3, 1), (148, .invokevirtual 176, 3), (151, .goto 14, 3), (154, .aload_n 0, 1), (155, .getfield 10, 3), (158, .iload_n 2, 1), (159, .iload_n 3, 1), (160, .iload 4, 2), (162, .invokevirtual 176, 3), (165, .ireturn, 1), (166, .aload_n 0, 1), (167, .getfield 10, 3), (170, .getfield 80, 3), (173, .iload_n 2, 1), (174, .iload_n 3, 1), (175, .invokevirtual 101, 3), (178, .ireturn, 1), (179, .aload_n 0, 1), (180, .getfield 10, 3), (183, .aload_n 0, 1), (184, .getfield 26, 3), (187, .iload_n 1, 1), (188, .invokevirtual 289, 3), (191, .ireturn, 1), (192, .aload_n 0, 1), (193, .getfield 10, 3), (196, .iload_n 2, 1), (197, .invokevirtual 98, 3), (200, .ireturn, 1), (201, .aload_n 0, 1), (202, .getfield 10, 3), (205, .getfield 179, 3), (208, .invokevirtual 191, 3), (211, .ireturn, 1), (212, .bipush (-2), 2), (214, .ireturn, 1)]
def inX11_examineSentence : List (Nat × Instr × Nat) := [(0, .aload_n 0, 1), (1, .getfield 33, 3), (4, .aload_n 0, 1), (5, .getfield 10, 3), (8, .bipush 16, 2), (10, .invokevirtual 195, 3), (13, .aload_n 0, 1), (14, .getfield 40, 3), (17, .aload_n 0, 1), (18, .getfield 10, 3), (21, .invokevirtual 293, 3), (24, .aload_n 0, 1), (25, .getfield 47, 3), (28, .aload_n 0, 1), (29, .getfield 10, 3), (32, .getfield 179, 3), (35, .invokevirtual 296, 3), (38, .return_, 1)]
def inX11_findBestArrangement : List (Nat × Instr × Nat) := [(0, .aload_n 0, 1), (1, .getfield 47, 3), (4, .aload_n 0, 1), (5, .getfield 10, 3), (8, .getfield 179, 3), (11, .invokevirtual 296, 3), (14, .aload_n 0, 1), (15, .getfield 54, 3), (18, .aload_n 0, 1), (19, .getfield 47, 3), (22, .invokevirtual 300, 3), (25, .return_, 1)]
def inX11_wordProperty : List (Nat × Instr × Nat) := [(0, .iload_n 2, 1), (1, .tableswitch 113 0 5 #[39, 51, 63, 75, 85, 103], 39), (40, .aload_n 0, 1), (41, .getfield 10, 3), (44, .getfield 179, 3), (47, .iload_n 1, 1), (48, .invokevirtual 304, 3), (51, .ireturn, 1), (52, .aload_n 0, 1), (53, .getfield 10, 3), (56, .getfield 179, 3), (59, .iload_n 1, 1), (60, .invokevirtual 307, 3), (63, .ireturn, 1), (64, .aload_n 0, 1), (65, .getfield 10, 3), (68, .getfield 179, 3), (71, .iload_n 1, 1), (72, .invokevirtual 310, 3), (75, .ireturn, 1), (76, .aload_n 0, 1), (77, .getfield 33, 3), (80, .getfield 313, 3), (83, .iload_n 1, 1), (84, .iaload, 1), (85, .ireturn, 1), (86, .aload_n 0, 1), (87, .getfield 33, 3), (90, .getfield 316, 3), (93, .iload_n 1, 1), (94, .baload, 1), (95, .ifCond .eq 7, 3), (98, .iconst 1, 1), (99, .goto 4, 3), (102, .iconst 0, 1), (103, .ireturn, 1), (104, .aload_n 0, 1), (105, .getfield 33, 3), (108, .getfield 320, 3), (111, .iload_n 1, 1), (112, .iaload, 1), (113, .ireturn, 1), (114, .aload_n 0, 1), (115, .getfield 33, 3), (118, .getfield 323, 3), (121, .iload_n 1, 1), (122, .iaload, 1), (123, .ireturn, 1)]
def inX11_sentenceProperty : List (Nat × Instr × Nat) := [(0, .iload_n 1, 1), (1, .tableswitch 97 0 5 #[39, 50, 58, 66, 74, 82], 39), (40, .aload_n 0, 1), (41, .getfield 10, 3), (44, .getfield 179, 3), (47, .getfield 326, 3), (50, .ireturn, 1), (51, .aload_n 0, 1), (52, .getfield 33, 3), (55, .getfield 329, 3), (58, .ireturn, 1), (59, .aload_n 0, 1), (60, .getfield 33, 3), (63, .getfield 332, 3), (66, .ireturn, 1), (67, .aload_n 0, 1), (68, .getfield 40, 3), (71, .getfield 335, 3), (74, .ireturn, 1), (75, .aload_n 0, 1), (76, .getfield 40, 3), (79, .getfield 338, 3), (82, .ireturn, 1), (83, .aload_n 0, 1), (84, .getfield 47, 3), (87, .aload_n 0, 1), (88, .getfield 10, 3), (91, .getfield 217, 3), (94, .invokevirtual 230, 3), (97, .ireturn, 1), (98, .aload_n 0, 1), (99, .getfield 47, 3), (102, .invokevirtual 341, 3), (105, .ireturn, 1)]
def inX11_figure : List (Nat × Instr × Nat) := [(0, .iload_n 1, 1), (1, .iconst 0, 1), (2, .iconst 2, 1), (3, .invokestatic 112, 3), (6, .ifCond .eq 10, 3), (9, .aload_n 0, 1), (10, .getfield 72, 3), (13, .iload_n 1, 1), (14, .iaload, 1), (15, .ireturn, 1), (16, .iload_n 1, 1), (17, .tableswitch 69 3 6 #[31, 39, 50, 61], 31), (48, .aload_n 0, 1), (49, .getfield 26, 3), (52, .getfield 344, 3), (55, .ireturn, 1), (56, .aload_n 0, 1), (57, .getfield 10, 3), (60, .getfield 80, 3), (63, .getfield 347, 3), (66, .ireturn, 1), (67, .aload_n 0, 1), (68, .getfield 10, 3), (71, .getfield 179, 3), (74, .getfield 326, 3), (77, .ireturn, 1), (78, .aload_n 0, 1), (79, .getfield 19, 3), (82, .getfield 348, 3), (85, .ireturn, 1), (86, .aload_n 0, 1), (87, .getfield 10, 3), (90, .getfield 80, 3), (93, .iload_n 1, 1), (94, .bipush 7, 2), (96, .isub, 1), (97, .invokevirtual 349, 3), (100, .ireturn, 1)]
def inX11_mixed : List (Nat × Instr × Nat) := [(0, .ldc2_w 352, 3), (3, .lload_n 0, 1), (4, .lmul, 1), (5, .iload_n 2, 1), (6, .i2l, 1), (7, .ladd, 1), (8, .lreturn, 1)]
def inX11_withSigns : List (Nat × Instr × Nat) := [(0, .lload_n 1, 1), (1, .lstore_n 3, 1), (2, .iconst 0, 1), (3, .istore 5, 2), (5, .iload 5, 2), (7, .aload_n 0, 1), (8, .getfield 10, 3), (11, .getfield 80, 3), (14, .getfield 347, 3), (17, .if_icmp .ge 40, 3), (20, .iconst 0, 1), (21, .istore 6, 2), (23, .iload 6, 2), (25, .iconst 5, 1), (26, .if_icmp .gt 25, 3), (29, .lload_n 3, 1), (30, .aload_n 0, 1), (31, .getfield 10, 3), (34, .iload 5, 2), (36, .iload 6, 2), (38, .invokevirtual 119, 3), (41, .invokestatic 267, 3), (44, .lstore_n 3, 1), (45, .iinc 6 1, 3), (48, .goto (-25), 3), (51, .iinc 5 1, 3), (54, .goto (-49), 3), (57, .lload_n 3, 1), (58, .lreturn, 1)]
def inX11_withWords : List (Nat × Instr × Nat) := [(0, .lload_n 1, 1), (1, .lstore_n 3, 1), (2, .iconst 0, 1), (3, .istore 5, 2), (5, .iload 5, 2), (7, .aload_n 0, 1), (8, .getfield 10, 3), (11, .getfield 179, 3), (14, .getfield 326, 3), (17, .if_icmp .ge 38, 3), (20, .iconst 0, 1), (21, .istore 6, 2), (23, .iload 6, 2), (25, .bipush 6, 2), (27, .if_icmp .gt 22, 3), (30, .lload_n 3, 1), (31, .aload_n 0, 1), (32, .iload 5, 2), (34, .iload 6, 2), (36, .invokevirtual 199, 3), (39, .invokestatic 267, 3), (42, .lstore_n 3, 1), (43, .iinc 6 1, 3), (46, .goto (-23), 3), (49, .iinc 5 1, 3), (52, .goto (-47), 3), (55, .lload_n 3, 1), (56, .lreturn, 1)]
def inX12_init : List (Nat × Instr × Nat) := [(0, .aload_n 0, 1), (1, .invokespecial 1, 3), (4, .aload_n 0, 1), (5, .sipush 1120, 3), (8, .newarray .int, 2), (10, .putfield 7, 3), (13, .aload_n 0, 1), (14, .iconst 3, 1), (15, .newarray .int, 2), (17, .putfield 13, 3), (20, .aload_n 0, 1), (21, .bipush 120, 2), (23, .newarray .int, 2), (25, .putfield 16, 3), (28, .aload_n 0, 1), (29, .bipush 6, 2), (31, .newarray .int, 2), (33, .putfield 19, 3), (36, .aload_n 0, 1), (37, .bipush 6, 2), (39, .newarray .int, 2), (41, .putfield 22, 3), (44, .aload_n 0, 1), (45, .bipush 60, 2), (47, .newarray .int, 2), (49, .putfield 25, 3), (52, .aload_n 0, 1), (53, .bipush 60, 2), (55, .newarray .int, 2), (57, .putfield 28, 3), (60, .aload_n 0, 1), (61, .sipush 360, 3), (64, .newarray .int, 2), (66, .putfield 31, 3), (69, .iconst 0, 1), (70, .istore_n 1, 1), (71, .iload_n 1, 1), (72, .iconst 4, 1), (73, .if_icmp .ge 20, 3), (76, .aload_n 0, 1), (77, .getfield 7, 3), (80, .sipush 130, 3), (83, .iload_n 1, 1), (84, .iadd, 1), (85, .iconst 1, 1), (86, .iastore, 1), (87, .iinc 1 1, 3), (90, .goto (-19), 3), (93, .iconst 0, 1), (94, .istore_n 1, 1), (95, .iload_n 1, 1), (96, .bipush 6, 2), (98, .if_icmp .ge 20, 3), (101, .aload_n 0, 1), (102, .getfield 7, 3), (105, .sipush 134, 3), (108, .iload_n 1, 1), (109, .iadd, 1), (110, .iload_n 1, 1), (111, .iastore, 1), (112, .iinc 1 1, 3), (115, .goto (-20), 3), (118, .return_, 1)]
def inX12_in : List (Nat × Instr × Nat) := [(0, .lload_n 0, 1), (1, .lload_n 2, 1), (2, .lcmp, 1), (3, .ifCond .lt 14, 3), (6, .lload_n 0, 1), (7, .lload 4, 2), (9, .lcmp, 1), (10, .ifCond .gt 7, 3), (13, .iconst 1, 1), (14, .goto 4, 3), (17, .iconst 0, 1), (18, .ireturn, 1)]
def inX12_has : List (Nat × Instr × Nat) := [(0, .iload_n 0, 1), (1, .iload_n 1, 1), (2, .ishr, 1), (3, .iconst 1, 1), (4, .iand, 1), (5, .iconst 1, 1), (6, .if_icmp .ne 7, 3), (9, .iconst 1, 1), (10, .goto 4, 3), (13, .iconst 0, 1), (14, .ireturn, 1)]
def inX12_off : List (Nat × Instr × Nat) := [(0, .iload_n 0, 1), (1, .iload_n 1, 1), (2, .if_icmp .ge 9, 3), (5, .iload_n 1, 1), (6, .iload_n 0, 1), (7, .isub, 1), (8, .goto 6, 3), (11, .iload_n 0, 1), (12, .iload_n 1, 1), (13, .isub, 1), (14, .ireturn, 1)]
def inX12_refuses : List (Nat × Instr × Nat) := [(0, .aload_n 0, 1), (1, .getfield 13, 3), (4, .bipush (-2), 2), (6, .iload_n 1, 1), (7, .isub, 1), (8, .dup2, 1), (9, .iaload, 1), (10, .iconst 1, 1), (11, .iadd, 1), (12, .iastore, 1), (13, .iload_n 1, 1), (14, .ireturn, 1)]
def inX12_copy : List (Nat × Instr × Nat) := [(0, .iconst 0, 1), (1, .istore_n 3, 1), (2, .iload_n 3, 1), (3, .sipush 140, 3), (6, .if_icmp .ge 25, 3), (9, .aload_n 0, 1), (10, .getfield 7, 3), (13, .iload_n 2, 1), (14, .iload_n 3, 1), (15, .iadd, 1), (16, .aload_n 0, 1), (17, .getfield 7, 3), (20, .iload_n 1, 1), (21, .iload_n 3, 1), (22, .iadd, 1), (23, .iaload, 1), (24, .iastore, 1), (25, .iinc 3 1, 3), (28, .goto (-26), 3), (31, .return_, 1)]
def inX12_minds : List (Nat × Instr × Nat) := [(0, .aload_n 0, 1), (1, .getfield 34, 3), (4, .iconst 5, 1), (5, .if_icmp .ne 48, 3), (8, .iconst 0, 1), (9, .istore_n 1, 1), (10, .iload_n 1, 1), (11, .sipush 560, 3), (14, .if_icmp .ge 29, 3), (17, .aload_n 0, 1), (18, .getfield 7, 3), (21, .sipush 140, 3), (24, .iload_n 1, 1), (25, .iadd, 1), (26, .aload_n 0, 1), (27, .getfield 7, 3), (30, .sipush 280, 3), (33, .iload_n 1, 1), (34, .iadd, 1), (35, .iaload, 1), (36, .iastore, 1), (37, .iinc 1 1, 3), (40, .goto (-30), 3), (43, .aload_n 0, 1), (44, .dup, 1), (45, .getfield 34, 3), (48, .iconst 1, 1), (49, .isub, 1), (50, .putfield 34, 3), (53, .aload_n 0, 1), (54, .iconst 0, 1), (55, .sipush 140, 3), (58, .sipush 140, 3), (61, .aload_n 0, 1), (62, .getfield 34, 3), (65, .imul, 1), (66, .iadd, 1), (67, .invokevirtual 38, 3), (70, .aload_n 0, 1), (71, .dup, 1), (72, .getfield 34, 3), (75, .iconst 1, 1), (76, .iadd, 1), (77, .putfield 34, 3), (80, .return_, 1)]
def inX12_isSign : List (Nat × Instr × Nat) := [(0, .iload_n 1, 1), (1, .i2l, 1), (2, .lconst 0, 1), (3, .aload_n 0, 1), (4, .getfield 7, 3), (7, .iconst 0, 1), (8, .iaload, 1), (9, .iconst 1, 1), (10, .isub, 1), (11, .i2l, 1), (12, .invokestatic 42, 3), (15, .ireturn, 1)]
def inX12_part : List (Nat × Instr × Nat) := [(0, .aload_n 0, 1), (1, .getfield 7, 3), (4, .iconst 2, 1), (5, .iconst 5, 1), (6, .iload_n 1, 1), (7, .imul, 1), (8, .iadd, 1), (9, .iload_n 2, 1), (10, .iadd, 1), (11, .iaload, 1), (12, .ireturn, 1)]
def inX12_isPart : List (Nat × Instr × Nat) := [(0, .iload_n 0, 1), (1, .i2l, 1), (2, .lconst 0, 1), (3, .ldc2_w 46, 3), (6, .invokestatic 42, 3), (9, .ireturn, 1)]
def inX12_areParts : List (Nat × Instr × Nat) := [(0, .iload_n 0, 1), (1, .invokestatic 48, 3), (4, .ifCond .eq 28, 3), (7, .iload_n 1, 1), (8, .invokestatic 48, 3), (11, .ifCond .eq 21, 3), (14, .iload_n 2, 1), (15, .invokestatic 48, 3), (18, .ifCond .eq 14, 3), (21, .iload_n 3, 1), (22, .invokestatic 48, 3), (25, .ifCond .eq 7, 3), (28, .iconst 1, 1), (29, .goto 4, 3), (32, .iconst 0, 1), (33, .ireturn, 1)]
def inX12_signOf : List (Nat × Instr × Nat) := [(0, .iconst 0, 1), (1, .istore 6, 2), (3, .iload 6, 2), (5, .aload_n 0, 1), (6, .getfield 7, 3), (9, .iconst 0, 1), (10, .iaload, 1), (11, .if_icmp .ge 64, 3), (14, .iload 6, 2), (16, .iload 5, 2), (18, .if_icmp .eq 51, 3), (21, .aload_n 0, 1), (22, .iload 6, 2), (24, .iconst 0, 1), (25, .invokevirtual 52, 3), (28, .iload_n 1, 1), (29, .if_icmp .ne 40, 3), (32, .aload_n 0, 1), (33, .iload 6, 2), (35, .iconst 1, 1), (36, .invokevirtual 52, 3), (39, .iload_n 2, 1), (40, .if_icmp .ne 29, 3), (43, .aload_n 0, 1), (44, .iload 6, 2), (46, .iconst 2, 1), (47, .invokevirtual 52, 3), (50, .iload_n 3, 1), (51, .if_icmp .ne 18, 3), (54, .aload_n 0, 1), (55, .iload 6, 2), (57, .iconst 3, 1), (58, .invokevirtual 52, 3), (61, .iload 4, 2), (63, .if_icmp .ne 6, 3), (66, .iload 6, 2), (68, .ireturn, 1), (69, .iinc 6 1, 3), (72, .goto (-69), 3), (75, .iconst (-1), 1), (76, .ireturn, 1)]
def inX12_canSign : List (Nat × Instr × Nat) := [(0, .iload_n 1, 1), (1, .iload_n 2, 1), (2, .iload_n 3, 1), (3, .iload 4, 2), (5, .invokestatic 56, 3), (8, .ifCond .eq 16, 3), (11, .iload 5, 2), (13, .i2l, 1), (14, .lconst 0, 1), (15, .ldc2_w 60, 3), (18, .invokestatic 42, 3), (21, .ifCond .ne 6, 3), (24, .bipush (-2), 2), (26, .ireturn, 1), (27, .aload_n 0, 1), (28, .iload_n 1, 1), (29, .iload_n 2, 1), (30, .iload_n 3, 1), (31, .iload 4, 2), (33, .iconst (-1), 1), (34, .invokevirtual 62, 3), (37, .iconst (-1), 1), (38, .if_icmp .eq 8, 3), (41, .bipush (-3), 2), (43, .goto 20, 3), (46, .aload_n 0, 1), (47, .getfield 7, 3), (50, .iconst 0, 1), (51, .iaload, 1), (52, .bipush 16, 2), (54, .if_icmp .ne 8, 3), (57, .bipush (-4), 2), (59, .goto 4, 3), (62, .iconst 0, 1), (63, .ireturn, 1)]
def inX12_adds : List (Nat × Instr × Nat) := [(0, .iconst 2, 1), (1, .iconst 5, 1), (2, .aload_n 0, 1), (3, .getfield 7, 3), (6, .iconst 0, 1), (7, .iaload, 1), (8, .imul, 1), (9, .iadd, 1), (10, .istore 6, 2), (12, .aload_n 0, 1), (13, .getfield 7, 3), (16, .iload 6, 2), (18, .iload_n 1, 1), (19, .iastore, 1), (20, .aload_n 0, 1), (21, .getfield 7, 3), (24, .iload 6, 2), (26, .iconst 1, 1), (27, .iadd, 1), (28, .iload_n 2, 1), (29, .iastore, 1), (30, .aload_n 0, 1), (31, .getfield 7, 3), (34, .iload 6, 2), (36, .iconst 2, 1), (37, .iadd, 1), (38, .iload_n 3, 1), (39, .iastore, 1), (40, .aload_n 0, 1), (41, .getfield 7, 3), (44, .iload 6, 2), (46, .iconst 3, 1), (47, .iadd, 1), (48, .iload 4, 2), (50, .iastore, 1), (51, .aload_n 0, 1), (52, .getfield 7, 3), (55, .iload 6, 2), (57, .iconst 4, 1), (58, .iadd, 1), (59, .iload 5, 2), (61, .iastore, 1), (62, .aload_n 0, 1), (63, .getfield 7, 3), (66, .iconst 0, 1), (67, .dup2, 1), (68, .iaload, 1), (69, .iconst 1, 1), (70, .iadd, 1), (71, .iastore, 1), (72, .aload_n 0, 1), (73, .getfield 7, 3), (76, .iconst 0, 1), (77, .iaload, 1), (78, .iconst 1, 1), (79, .isub, 1), (80, .ireturn, 1)]
def inX12_sign : List (Nat × Instr × Nat) := [(0, .aload_n 0, 1), (1, .iload_n 1, 1), (2, .iload_n 2, 1), (3, .iload_n 3, 1), (4, .iload 4, 2), (6, .iload 5, 2), (8, .invokevirtual 66, 3), (11, .istore 6, 2), (13, .iload 6, 2), (15, .ifCond .ge 10, 3), (18, .aload_n 0, 1), (19, .iload 6, 2), (21, .invokevirtual 69, 3), (24, .ireturn, 1), (25, .aload_n 0, 1), (26, .invokevirtual 73, 3), (29, .aload_n 0, 1), (30, .iload_n 1, 1), (31, .iload_n 2, 1), (32, .iload_n 3, 1), (33, .iload 4, 2), (35, .iload 5, 2), (37, .invokevirtual 76, 3), (40, .ireturn, 1)]
def inX12_becomes : List (Nat × Instr × Nat) := [(0, .aload_n 0, 1), (1, .iload_n 1, 1), (2, .invokevirtual 79, 3), (5, .ifCond .eq 38, 3), (8, .iload_n 2, 1), (9, .i2l, 1), (10, .lconst 0, 1), (11, .ldc2_w 82, 3), (14, .invokestatic 42, 3), (17, .ifCond .eq 26, 3), (20, .iload_n 3, 1), (21, .i2l, 1), (22, .lconst 0, 1), (23, .iload_n 2, 1), (24, .iconst 4, 1), (25, .if_icmp .ne 9, 3), (28, .ldc2_w 60, 3), (31, .goto 6, 3), (34, .ldc2_w 46, 3), (37, .invokestatic 42, 3), (40, .ifCond .ne 10, 3), (43, .aload_n 0, 1), (44, .bipush (-2), 2), (46, .invokevirtual 69, 3), (49, .ireturn, 1), (50, .aload_n 0, 1), (51, .iload_n 1, 1), (52, .iload_n 2, 1), (53, .invokevirtual 52, 3), (56, .istore 4, 2), (58, .aload_n 0, 1), (59, .getfield 7, 3), (62, .iconst 2, 1), (63, .iconst 5, 1), (64, .iload_n 1, 1), (65, .imul, 1), (66, .iadd, 1), (67, .iload_n 2, 1), (68, .iadd, 1), (69, .iload_n 3, 1), (70, .iastore, 1), (71, .aload_n 0, 1), (72, .aload_n 0, 1), (73, .iload_n 1, 1), (74, .iconst 0, 1), (75, .invokevirtual 52, 3), (78, .aload_n 0, 1), (79, .iload_n 1, 1), (80, .iconst 1, 1), (81, .invokevirtual 52, 3), (84, .aload_n 0, 1), (85, .iload_n 1, 1), (86, .iconst 2, 1), (87, .invokevirtual 52, 3), (90, .aload_n 0, 1), (91, .iload_n 1, 1), (92, .iconst 3, 1), (93, .invokevirtual 52, 3), (96, .iload_n 1, 1), (97, .invokevirtual 62, 3), (100, .iconst (-1), 1), (101, .if_icmp .ne 7, 3), (104, .iconst 1, 1), (105, .goto 4, 3), (108, .iconst 0, 1), (109, .istore 5, 2), (111, .aload_n 0, 1), (112, .getfield 7, 3), (115, .iconst 2, 1), (116, .iconst 5, 1), (117, .iload_n 1, 1), (118, .imul, 1), (119, .iadd, 1), (120, .iload_n 2, 1), (121, .iadd, 1), (122, .iload 4, 2), (124, .iastore, 1), (125, .iload 5, 2), (127, .ifCond .ne 10, 3), (130, .aload_n 0, 1), (131, .bipush (-3), 2), (133, .invokevirtual 69, 3), (136, .ireturn, 1), (137, .aload_n 0, 1), (138, .invokevirtual 73, 3), (141, .aload_n 0, 1), (142, .getfield 7, 3), (145, .iconst 2, 1), (146, .iconst 5, 1), (147, .iload_n 1, 1), (148, .imul, 1), (149, .iadd, 1), (150, .iload_n 2, 1), (151, .iadd, 1), (152, .iload_n 3, 1), (153, .iastore, 1), (154, .iload 4, 2), (156, .ireturn, 1)]
def inX12_wordsWith : List (Nat × Instr × Nat) := [(0, .iconst 0, 1), (1, .istore_n 2, 1), (2, .iconst 0, 1), (3, .istore_n 3, 1), (4, .iload_n 3, 1), (5, .aload_n 0, 1), (6, .getfield 7, 3), (9, .iconst 1, 1), (10, .iaload, 1), (11, .if_icmp .ge 32, 3), (14, .iload_n 2, 1), (15, .aload_n 0, 1), (16, .getfield 7, 3), (19, .bipush 82, 2), (21, .iconst 3, 1), (22, .iload_n 3, 1), (23, .imul, 1), (24, .iadd, 1), (25, .iaload, 1), (26, .iload_n 1, 1), (27, .if_icmp .ne 7, 3), (30, .iconst 1, 1), (31, .goto 4, 3), (34, .iconst 0, 1), (35, .iadd, 1), (36, .istore_n 2, 1), (37, .iinc 3 1, 3), (40, .goto (-36), 3), (43, .iload_n 2, 1), (44, .ireturn, 1)]
def inX12_canDrop : List (Nat × Instr × Nat) := [(0, .aload_n 0, 1), (1, .iload_n 1, 1), (2, .invokevirtual 79, 3), (5, .ifCond .ne 8, 3), (8, .bipush (-2), 2), (10, .goto 17, 3), (13, .aload_n 0, 1), (14, .iload_n 1, 1), (15, .invokevirtual 84, 3), (18, .ifCond .le 8, 3), (21, .bipush (-3), 2), (23, .goto 4, 3), (26, .iconst 0, 1), (27, .ireturn, 1)]
def inX12_goes : List (Nat × Instr × Nat) := [(0, .aload_n 0, 1), (1, .getfield 7, 3), (4, .iconst 0, 1), (5, .dup2, 1), (6, .iaload, 1), (7, .iconst 1, 1), (8, .isub, 1), (9, .iastore, 1), (10, .iconst 2, 1), (11, .iconst 5, 1), (12, .iload_n 1, 1), (13, .imul, 1), (14, .iadd, 1), (15, .istore_n 2, 1), (16, .iload_n 2, 1), (17, .iconst 2, 1), (18, .iconst 5, 1), (19, .aload_n 0, 1), (20, .getfield 7, 3), (23, .iconst 0, 1), (24, .iaload, 1), (25, .imul, 1), (26, .iadd, 1), (27, .if_icmp .ge 23, 3), (30, .aload_n 0, 1), (31, .getfield 7, 3), (34, .iload_n 2, 1), (35, .aload_n 0, 1), (36, .getfield 7, 3), (39, .iload_n 2, 1), (40, .iconst 5, 1), (41, .iadd, 1), (42, .iaload, 1), (43, .iastore, 1), (44, .iinc 2 1, 3), (47, .goto (-31), 3), (50, .iconst 0, 1), (51, .istore_n 2, 1), (52, .iload_n 2, 1), (53, .aload_n 0, 1), (54, .getfield 7, 3), (57, .iconst 1, 1), (58, .iaload, 1), (59, .if_icmp .ge 43, 3), (62, .aload_n 0, 1), (63, .getfield 7, 3), (66, .bipush 82, 2), (68, .iconst 3, 1), (69, .iload_n 2, 1), (70, .imul, 1), (71, .iadd, 1), (72, .dup2, 1), (73, .iaload, 1), (74, .aload_n 0, 1), (75, .getfield 7, 3), (78, .bipush 82, 2), (80, .iconst 3, 1), (81, .iload_n 2, 1), (82, .imul, 1), (83, .iadd, 1), (84, .iaload, 1), (85, .iload_n 1, 1), (86, .if_icmp .le 7, 3), (89, .iconst 1, 1), (90, .goto 4, 3), (93, .iconst 0, 1), (94, .isub, 1), (95, .iastore, 1), (96, .iinc 2 1, 3), (99, .goto (-47), 3), (102, .aload_n 0, 1), (103, .getfield 7, 3), (106, .iconst 0, 1), (107, .iaload, 1), (108, .ireturn, 1)]
def inX12_drops : List (Nat × Instr × Nat) := [(0, .aload_n 0, 1), (1, .iload_n 1, 1), (2, .invokevirtual 87, 3), (5, .istore_n 2, 1), (6, .iload_n 2, 1), (7, .ifCond .ge 9, 3), (10, .aload_n 0, 1), (11, .iload_n 2, 1), (12, .invokevirtual 69, 3), (15, .ireturn, 1), (16, .aload_n 0, 1), (17, .invokevirtual 73, 3), (20, .aload_n 0, 1), (21, .iload_n 1, 1), (22, .invokevirtual 90, 3), (25, .ireturn, 1)]
def inX12_isWeight : List (Nat × Instr × Nat) := [(0, .iload_n 0, 1), (1, .i2l, 1), (2, .lconst 0, 1), (3, .ldc2_w 60, 3), (6, .invokestatic 42, 3), (9, .ifCond .eq 19, 3), (12, .iload_n 1, 1), (13, .i2l, 1), (14, .lconst 0, 1), (15, .ldc2_w 93, 3), (18, .invokestatic 42, 3), (21, .ifCond .eq 7, 3), (24, .iconst 1, 1), (25, .goto 4, 3), (28, .iconst 0, 1), (29, .ireturn, 1)]
def inX12_weight : List (Nat × Instr × Nat) := [(0, .iload_n 1, 1), (1, .iload_n 2, 1), (2, .invokestatic 95, 3), (5, .ifCond .ne 10, 3), (8, .aload_n 0, 1), (9, .bipush (-2), 2), (11, .invokevirtual 69, 3), (14, .ireturn, 1), (15, .aload_n 0, 1), (16, .invokevirtual 73, 3), (19, .aload_n 0, 1), (20, .getfield 7, 3), (23, .sipush 130, 3), (26, .iload_n 1, 1), (27, .iadd, 1), (28, .iaload, 1), (29, .istore_n 3, 1), (30, .aload_n 0, 1), (31, .getfield 7, 3), (34, .sipush 130, 3), (37, .iload_n 1, 1), (38, .iadd, 1), (39, .iload_n 2, 1), (40, .iastore, 1), (41, .iload_n 3, 1), (42, .ireturn, 1)]
def inX12_next : List (Nat × Instr × Nat) := [(0, .aload_n 0, 1), (1, .aload_n 0, 1), (2, .getfield 99, 3), (5, .ldc2_w 103, 3), (8, .lmul, 1), (9, .ldc2_w 105, 3), (12, .ladd, 1), (13, .ldc2_w 107, 3), (16, .lrem, 1), (17, .putfield 99, 3), (20, .aload_n 0, 1), (21, .getfield 99, 3), (24, .ldc2_w 109, 3), (27, .ldiv, 1), (28, .ldc2_w 111, 3), (31, .lrem, 1), (32, .l2i, 1), (33, .ireturn, 1)]
def inX12_draws : List (Nat × Instr × Nat) := [(0, .iload_n 1, 1), (1, .i2l, 1), (2, .lconst 0, 1), (3, .ldc2_w 113, 3), (6, .invokestatic 42, 3), (9, .ifCond .eq 15, 3), (12, .iload_n 2, 1), (13, .i2l, 1), (14, .lconst 1, 1), (15, .ldc2_w 115, 3), (18, .invokestatic 42, 3), (21, .ifCond .ne 10, 3), (24, .aload_n 0, 1), (25, .bipush (-2), 2), (27, .invokevirtual 69, 3), (30, .ireturn, 1), (31, .aload_n 0, 1), (32, .invokevirtual 73, 3), (35, .aload_n 0, 1), (36, .iload_n 1, 1), (37, .i2l, 1), (38, .putfield 99, 3), (41, .iconst 0, 1), (42, .istore_n 3, 1), (43, .iconst 0, 1), (44, .istore 4, 2), (46, .iload 4, 2), (48, .iload_n 2, 1), (49, .if_icmp .ge 76, 3), (52, .aload_n 0, 1), (53, .invokevirtual 117, 3), (56, .istore 5, 2), (58, .aload_n 0, 1), (59, .invokevirtual 117, 3), (62, .istore 6, 2), (64, .aload_n 0, 1), (65, .invokevirtual 117, 3), (68, .istore 7, 2), (70, .aload_n 0, 1), (71, .invokevirtual 117, 3), (74, .istore 8, 2), (76, .aload_n 0, 1), (77, .invokevirtual 117, 3), (80, .iconst 4, 1), (81, .irem, 1), (82, .istore 9, 2), (84, .aload_n 0, 1), (85, .iload 5, 2), (87, .iload 6, 2), (89, .iload 7, 2), (91, .iload 8, 2), (93, .iload 9, 2), (95, .invokevirtual 66, 3), (98, .ifCond .ne 21, 3), (101, .aload_n 0, 1), (102, .iload 5, 2), (104, .iload 6, 2), (106, .iload 7, 2), (108, .iload 8, 2), (110, .iload 9, 2), (112, .invokevirtual 76, 3), (115, .pop, 1), (116, .iinc 3 1, 3), (119, .iinc 4 1, 3), (122, .goto (-76), 3), (125, .iload_n 3, 1), (126, .ireturn, 1)]
def inX12_of : List (Nat × Instr × Nat) := [(0, .aload_n 0, 1), (1, .iload_n 1, 1), (2, .invokevirtual 79, 3), (5, .ifCond .eq 15, 3), (8, .iload_n 2, 1), (9, .i2l, 1), (10, .lconst 0, 1), (11, .ldc2_w 93, 3), (14, .invokestatic 42, 3), (17, .ifCond .ne 10, 3), (20, .aload_n 0, 1), (21, .bipush (-2), 2), (23, .invokevirtual 69, 3), (26, .ireturn, 1), (27, .iload_n 2, 1), (28, .iconst 5, 1), (29, .if_icmp .ge 12, 3), (32, .aload_n 0, 1), (33, .iload_n 1, 1), (34, .iload_n 2, 1), (35, .invokevirtual 52, 3), (38, .goto 8, 3), (41, .aload_n 0, 1), (42, .iload_n 1, 1), (43, .invokevirtual 84, 3), (46, .ireturn, 1)]
def inX12_ones : List (Nat × Instr × Nat) := [(0, .iconst 0, 1), (1, .istore_n 1, 1), (2, .iconst 0, 1), (3, .istore_n 2, 1), (4, .iload_n 2, 1), (5, .bipush 16, 2), (7, .if_icmp .ge 17, 3), (10, .iload_n 1, 1), (11, .iload_n 0, 1), (12, .iload_n 2, 1), (13, .ishr, 1), (14, .iconst 1, 1), (15, .iand, 1), (16, .iadd, 1), (17, .istore_n 1, 1), (18, .iinc 2 1, 3), (21, .goto (-17), 3), (24, .iload_n 1, 1), (25, .ireturn, 1)]
def inX12_apartBy : List (Nat × Instr × Nat) := [(0, .iload_n 0, 1), (1, .tableswitch 80 0 2 #[27, 34, 54], 27), (28, .iload_n 1, 1), (29, .iload_n 2, 1), (30, .ixor, 1), (31, .invokestatic 121, 3), (34, .ireturn, 1), (35, .iload_n 1, 1), (36, .iconst 4, 1), (37, .irem, 1), (38, .iload_n 2, 1), (39, .iconst 4, 1), (40, .irem, 1), (41, .invokestatic 124, 3), (44, .iload_n 1, 1), (45, .iconst 4, 1), (46, .idiv, 1), (47, .iload_n 2, 1), (48, .iconst 4, 1), (49, .idiv, 1), (50, .invokestatic 124, 3), (53, .iadd, 1), (54, .ireturn, 1), (55, .iload_n 1, 1), (56, .iload_n 2, 1), (57, .invokestatic 124, 3), (60, .iconst 4, 1), (61, .if_icmp .le 14, 3), (64, .bipush 8, 2), (66, .iload_n 1, 1), (67, .iload_n 2, 1), (68, .invokestatic 124, 3), (71, .isub, 1), (72, .goto 8, 3), (75, .iload_n 1, 1), (76, .iload_n 2, 1), (77, .invokestatic 124, 3), (80, .ireturn, 1), (81, .iload_n 1, 1), (82, .iload_n 2, 1), (83, .if_icmp .ne 7, 3), (86, .iconst 0, 1), (87, .goto 30, 3), (90, .iload_n 1, 1), (91, .iconst 2, 1), (92, .idiv, 1), (93, .iload_n 2, 1), (94, .iconst 2, 1), (95, .idiv, 1), (96, .if_icmp .ne 7, 3), (99, .iconst 1, 1), (100, .goto 17, 3), (103, .iload_n 1, 1), (104, .iconst 4, 1), (105, .idiv, 1), (106, .iload_n 2, 1), (107, .iconst 4, 1), (108, .idiv, 1), (109, .if_icmp .ne 7, 3), (112, .iconst 2, 1), (113, .goto 4, 3), (116, .iconst 3, 1), (117, .ireturn, 1)]
def inX12_apartOf : List (Nat × Instr × Nat) := [(0, .aload_n 0, 1), (1, .getfield 7, 3), (4, .sipush 130, 3), (7, .iaload, 1), (8, .iconst 0, 1), (9, .aload_n 0, 1), (10, .iload_n 1, 1), (11, .iconst 0, 1), (12, .invokevirtual 52, 3), (15, .iload_n 2, 1), (16, .invokestatic 127, 3), (19, .imul, 1), (20, .aload_n 0, 1), (21, .getfield 7, 3), (24, .sipush 131, 3), (27, .iaload, 1), (28, .iconst 1, 1), (29, .aload_n 0, 1), (30, .iload_n 1, 1), (31, .iconst 1, 1), (32, .invokevirtual 52, 3), (35, .iload_n 3, 1), (36, .invokestatic 127, 3), (39, .imul, 1), (40, .iadd, 1), (41, .aload_n 0, 1), (42, .getfield 7, 3), (45, .sipush 132, 3), (48, .iaload, 1), (49, .iconst 2, 1), (50, .aload_n 0, 1), (51, .iload_n 1, 1), (52, .iconst 2, 1), (53, .invokevirtual 52, 3), (56, .iload 4, 2), (58, .invokestatic 127, 3), (61, .imul, 1), (62, .iadd, 1), (63, .aload_n 0, 1), (64, .getfield 7, 3), (67, .sipush 133, 3), (70, .iaload, 1), (71, .iconst 3, 1), (72, .aload_n 0, 1), (73, .iload_n 1, 1), (74, .iconst 3, 1), (75, .invokevirtual 52, 3), (78, .iload 5, 2), (80, .invokestatic 127, 3), (83, .imul, 1), (84, .iadd, 1), (85, .ireturn, 1)]
def inX12_between : List (Nat × Instr × Nat) := [(0, .aload_n 0, 1), (1, .iload_n 1, 1), (2, .aload_n 0, 1), (3, .iload_n 2, 1), (4, .iconst 0, 1), (5, .invokevirtual 52, 3), (8, .aload_n 0, 1), (9, .iload_n 2, 1), (10, .iconst 1, 1), (11, .invokevirtual 52, 3), (14, .aload_n 0, 1), (15, .iload_n 2, 1), (16, .iconst 2, 1), (17, .invokevirtual 52, 3), (20, .aload_n 0, 1), (21, .iload_n 2, 1), (22, .iconst 3, 1), (23, .invokevirtual 52, 3), (26, .invokevirtual 131, 3), (29, .ireturn, 1)]
def inX12_apart : List (Nat × Instr × Nat) := [(0, .aload_n 0, 1), (1, .iload_n 1, 1), (2, .invokevirtual 79, 3), (5, .ifCond .eq 23, 3), (8, .aload_n 0, 1), (9, .iload_n 2, 1), (10, .invokevirtual 79, 3), (13, .ifCond .eq 15, 3), (16, .iload_n 3, 1), (17, .i2l, 1), (18, .lconst 0, 1), (19, .ldc2_w 82, 3), (22, .invokestatic 42, 3), (25, .ifCond .ne 10, 3), (28, .aload_n 0, 1), (29, .bipush (-2), 2), (31, .invokevirtual 69, 3), (34, .ireturn, 1), (35, .iload_n 3, 1), (36, .iconst 4, 1), (37, .if_icmp .ne 12, 3), (40, .aload_n 0, 1), (41, .iload_n 1, 1), (42, .iload_n 2, 1), (43, .invokevirtual 134, 3), (46, .goto 19, 3), (49, .iload_n 3, 1), (50, .aload_n 0, 1), (51, .iload_n 1, 1), (52, .iload_n 3, 1), (53, .invokevirtual 52, 3), (56, .aload_n 0, 1), (57, .iload_n 2, 1), (58, .iload_n 3, 1), (59, .invokevirtual 52, 3), (62, .invokestatic 127, 3), (65, .ireturn, 1)]
def inX12_isAsked : List (Nat × Instr × Nat) := [(0, .iload_n 0, 1), (1, .i2l, 1), (2, .ldc2_w 137, 3), (5, .ldc2_w 46, 3), (8, .invokestatic 42, 3), (11, .ireturn, 1)]
def inX12_isSo : List (Nat × Instr × Nat) := [(0, .iload_n 3, 1), (1, .iconst (-1), 1), (2, .if_icmp .eq 13, 3), (5, .aload_n 0, 1), (6, .iload_n 1, 1), (7, .iload_n 2, 1), (8, .invokevirtual 52, 3), (11, .iload_n 3, 1), (12, .if_icmp .ne 7, 3), (15, .iconst 1, 1), (16, .goto 4, 3), (19, .iconst 0, 1), (20, .ireturn, 1)]
def inX12_look : List (Nat × Instr × Nat) := [(0, .iload_n 1, 1), (1, .invokestatic 139, 3), (4, .ifCond .eq 25, 3), (7, .iload_n 2, 1), (8, .invokestatic 139, 3), (11, .ifCond .eq 18, 3), (14, .iload_n 3, 1), (15, .invokestatic 139, 3), (18, .ifCond .eq 11, 3), (21, .iload 4, 2), (23, .invokestatic 139, 3), (26, .ifCond .ne 10, 3), (29, .aload_n 0, 1), (30, .bipush (-2), 2), (32, .invokevirtual 69, 3), (35, .ireturn, 1), (36, .iconst 0, 1), (37, .istore 5, 2), (39, .iconst 0, 1), (40, .istore 6, 2), (42, .iload 6, 2), (44, .aload_n 0, 1), (45, .getfield 7, 3), (48, .iconst 0, 1), (49, .iaload, 1), (50, .if_icmp .ge 67, 3), (53, .iload 5, 2), (55, .aload_n 0, 1), (56, .iload 6, 2), (58, .iconst 0, 1), (59, .iload_n 1, 1), (60, .invokevirtual 142, 3), (63, .ifCond .eq 44, 3), (66, .aload_n 0, 1), (67, .iload 6, 2), (69, .iconst 1, 1), (70, .iload_n 2, 1), (71, .invokevirtual 142, 3), (74, .ifCond .eq 33, 3), (77, .aload_n 0, 1), (78, .iload 6, 2), (80, .iconst 2, 1), (81, .iload_n 3, 1), (82, .invokevirtual 142, 3), (85, .ifCond .eq 22, 3), (88, .aload_n 0, 1), (89, .iload 6, 2), (91, .iconst 3, 1), (92, .iload 4, 2), (94, .invokevirtual 142, 3), (97, .ifCond .eq 10, 3), (100, .iconst 1, 1), (101, .iload 6, 2), (103, .ishl, 1), (104, .goto 4, 3), (107, .iconst 0, 1), (108, .ior, 1), (109, .istore 5, 2), (111, .iinc 6 1, 3), (114, .goto (-72), 3), (117, .iload 5, 2), (119, .ireturn, 1)]
def inX12_nearOf : List (Nat × Instr × Nat) := [(0, .iconst 0, 1), (1, .istore_n 3, 1), (2, .iconst 0, 1), (3, .istore 4, 2), (5, .iload 4, 2), (7, .aload_n 0, 1), (8, .getfield 7, 3), (11, .iconst 0, 1), (12, .iaload, 1), (13, .if_icmp .ge 31, 3), (16, .iload_n 3, 1), (17, .aload_n 0, 1), (18, .iload 4, 2), (20, .iload_n 1, 1), (21, .invokevirtual 134, 3), (24, .iload_n 2, 1), (25, .if_icmp .gt 10, 3), (28, .iconst 1, 1), (29, .iload 4, 2), (31, .ishl, 1), (32, .goto 4, 3), (35, .iconst 0, 1), (36, .ior, 1), (37, .istore_n 3, 1), (38, .iinc 4 1, 3), (41, .goto (-36), 3), (44, .iload_n 3, 1), (45, .ireturn, 1)]
def inX12_near : List (Nat × Instr × Nat) := [(0, .aload_n 0, 1), (1, .iload_n 1, 1), (2, .invokevirtual 79, 3), (5, .ifCond .eq 24, 3), (8, .iload_n 2, 1), (9, .i2l, 1), (10, .lconst 0, 1), (11, .ldc2_w 146, 3), (14, .invokestatic 42, 3), (17, .ifCond .eq 12, 3), (20, .aload_n 0, 1), (21, .iload_n 1, 1), (22, .iload_n 2, 1), (23, .invokevirtual 148, 3), (26, .goto 9, 3), (29, .aload_n 0, 1), (30, .bipush (-2), 2), (32, .invokevirtual 69, 3), (35, .ireturn, 1)]
def inX12_nearest : List (Nat × Instr × Nat) := [(0, .iload_n 1, 1), (1, .iload_n 2, 1), (2, .iload_n 3, 1), (3, .iload 4, 2), (5, .invokestatic 56, 3), (8, .ifCond .ne 10, 3), (11, .aload_n 0, 1), (12, .bipush (-2), 2), (14, .invokevirtual 69, 3), (17, .ireturn, 1), (18, .iconst (-1), 1), (19, .istore 5, 2), (21, .iconst 0, 1), (22, .istore 6, 2), (24, .iload 6, 2), (26, .aload_n 0, 1), (27, .getfield 7, 3), (30, .iconst 0, 1), (31, .iaload, 1), (32, .if_icmp .ge 49, 3), (35, .iload 5, 2), (37, .iconst (-1), 1), (38, .if_icmp .eq 28, 3), (41, .aload_n 0, 1), (42, .iload 6, 2), (44, .iload_n 1, 1), (45, .iload_n 2, 1), (46, .iload_n 3, 1), (47, .iload 4, 2), (49, .invokevirtual 131, 3), (52, .aload_n 0, 1), (53, .iload 5, 2), (55, .iload_n 1, 1), (56, .iload_n 2, 1), (57, .iload_n 3, 1), (58, .iload 4, 2), (60, .invokevirtual 131, 3), (63, .if_icmp .ge 8, 3), (66, .iload 6, 2), (68, .goto 5, 3), (71, .iload 5, 2), (73, .istore 5, 2), (75, .iinc 6 1, 3), (78, .goto (-54), 3), (81, .iload 5, 2), (83, .ireturn, 1)]
def inX12_sorts : List (Nat × Instr × Nat) := [(0, .iload_n 1, 1), (1, .i2l, 1), (2, .lconst 0, 1), (3, .ldc2_w 60, 3), (6, .invokestatic 42, 3), (9, .ifCond .ne 10, 3), (12, .aload_n 0, 1), (13, .bipush (-2), 2), (15, .invokevirtual 69, 3), (18, .ireturn, 1), (19, .iconst 0, 1), (20, .istore_n 2, 1), (21, .iconst 0, 1), (22, .istore_n 3, 1), (23, .iload_n 3, 1), (24, .aload_n 0, 1), (25, .getfield 7, 3), (28, .iconst 0, 1), (29, .iaload, 1), (30, .if_icmp .ge 27, 3), (33, .iload_n 2, 1), (34, .aload_n 0, 1), (35, .iload_n 3, 1), (36, .iconst 4, 1), (37, .invokevirtual 52, 3), (40, .iload_n 1, 1), (41, .if_icmp .ne 7, 3), (44, .iconst 1, 1), (45, .goto 4, 3), (48, .iconst 0, 1), (49, .iadd, 1), (50, .istore_n 2, 1), (51, .iinc 3 1, 3), (54, .goto (-31), 3), (57, .iload_n 2, 1), (58, .ireturn, 1)]
def inX12_group : List (Nat × Instr × Nat) := [(0, .iconst 1, 1), (1, .iload_n 1, 1), (2, .ishl, 1), (3, .istore_n 3, 1), (4, .iconst 0, 1), (5, .istore 4, 2), (7, .iload 4, 2), (9, .aload_n 0, 1), (10, .getfield 7, 3), (13, .iconst 0, 1), (14, .iaload, 1), (15, .if_icmp .ge 52, 3), (18, .iconst 0, 1), (19, .istore 5, 2), (21, .iload 5, 2), (23, .aload_n 0, 1), (24, .getfield 7, 3), (27, .iconst 0, 1), (28, .iaload, 1), (29, .if_icmp .ge 32, 3), (32, .iload_n 3, 1), (33, .iload_n 3, 1), (34, .iload 5, 2), (36, .invokestatic 151, 3), (39, .ifCond .eq 13, 3), (42, .aload_n 0, 1), (43, .iload 5, 2), (45, .iload_n 2, 1), (46, .invokevirtual 148, 3), (49, .goto 4, 3), (52, .iconst 0, 1), (53, .ior, 1), (54, .istore_n 3, 1), (55, .iinc 5 1, 3), (58, .goto (-37), 3), (61, .iinc 4 1, 3), (64, .goto (-57), 3), (67, .iload_n 3, 1), (68, .ireturn, 1)]
def inX12_groups : List (Nat × Instr × Nat) := [(0, .iload_n 1, 1), (1, .i2l, 1), (2, .lconst 0, 1), (3, .ldc2_w 146, 3), (6, .invokestatic 42, 3), (9, .ifCond .eq 13, 3), (12, .iload_n 2, 1), (13, .i2l, 1), (14, .lconst 0, 1), (15, .lconst 1, 1), (16, .invokestatic 42, 3), (19, .ifCond .ne 10, 3), (22, .aload_n 0, 1), (23, .bipush (-2), 2), (25, .invokevirtual 69, 3), (28, .ireturn, 1), (29, .iconst 0, 1), (30, .istore_n 3, 1), (31, .iconst 0, 1), (32, .istore 4, 2), (34, .iconst 0, 1), (35, .istore 5, 2), (37, .iconst 0, 1), (38, .istore 6, 2), (40, .iload 6, 2), (42, .aload_n 0, 1), (43, .getfield 7, 3), (46, .iconst 0, 1), (47, .iaload, 1), (48, .if_icmp .ge 60, 3), (51, .iload 5, 2), (53, .iload 6, 2), (55, .invokestatic 151, 3), (58, .ifCond .ne 44, 3), (61, .aload_n 0, 1), (62, .iload 6, 2), (64, .iload_n 1, 1), (65, .invokevirtual 154, 3), (68, .istore 7, 2), (70, .iload 5, 2), (72, .iload 7, 2), (74, .ior, 1), (75, .istore 5, 2), (77, .iinc 3 1, 3), (80, .iload 7, 2), (82, .invokestatic 121, 3), (85, .iload 4, 2), (87, .if_icmp .le 11, 3), (90, .iload 7, 2), (92, .invokestatic 121, 3), (95, .goto 5, 3), (98, .iload 4, 2), (100, .istore 4, 2), (102, .iinc 6 1, 3), (105, .goto (-65), 3), (108, .iload_n 2, 1), (109, .ifCond .ne 7, 3), (112, .iload_n 3, 1), (113, .goto 5, 3), (116, .iload 4, 2), (118, .ireturn, 1)]
def inX12_unlike : List (Nat × Instr × Nat) := [(0, .iconst 0, 1), (1, .istore_n 3, 1), (2, .iconst 0, 1), (3, .istore 4, 2), (5, .iload 4, 2), (7, .iconst 4, 1), (8, .if_icmp .ge 37, 3), (11, .iload_n 3, 1), (12, .aload_n 0, 1), (13, .iload_n 1, 1), (14, .iload 4, 2), (16, .invokevirtual 52, 3), (19, .aload_n 0, 1), (20, .iload_n 2, 1), (21, .iload 4, 2), (23, .invokevirtual 52, 3), (26, .if_icmp .eq 10, 3), (29, .iconst 1, 1), (30, .iload 4, 2), (32, .ishl, 1), (33, .goto 4, 3), (36, .iconst 0, 1), (37, .ior, 1), (38, .istore_n 3, 1), (39, .iinc 4 1, 3), (42, .goto (-37), 3), (45, .iload_n 3, 1), (46, .ireturn, 1)]
def inX12_twinsBy : List (Nat × Instr × Nat) := [(0, .iconst 0, 1), (1, .istore_n 2, 1), (2, .iconst 0, 1), (3, .istore_n 3, 1), (4, .iload_n 3, 1), (5, .aload_n 0, 1), (6, .getfield 7, 3), (9, .iconst 0, 1), (10, .iaload, 1), (11, .if_icmp .ge 64, 3), (14, .iconst 0, 1), (15, .istore 4, 2), (17, .iload 4, 2), (19, .iload_n 3, 1), (20, .if_icmp .ge 49, 3), (23, .aload_n 0, 1), (24, .iload_n 3, 1), (25, .iload 4, 2), (27, .invokevirtual 157, 3), (30, .istore 5, 2), (32, .iload_n 2, 1), (33, .iload 5, 2), (35, .invokestatic 121, 3), (38, .iconst 1, 1), (39, .if_icmp .ne 21, 3), (42, .iload_n 1, 1), (43, .iconst (-1), 1), (44, .if_icmp .eq 12, 3), (47, .iload 5, 2), (49, .iload_n 1, 1), (50, .invokestatic 151, 3), (53, .ifCond .eq 7, 3), (56, .iconst 1, 1), (57, .goto 4, 3), (60, .iconst 0, 1), (61, .iadd, 1), (62, .istore_n 2, 1), (63, .iinc 4 1, 3), (66, .goto (-49), 3), (69, .iinc 3 1, 3), (72, .goto (-68), 3), (75, .iload_n 2, 1), (76, .ireturn, 1)]
def inX12_twins : List (Nat × Instr × Nat) := [(0, .iload_n 1, 1), (1, .i2l, 1), (2, .ldc2_w 137, 3), (5, .ldc2_w 60, 3), (8, .invokestatic 42, 3), (11, .ifCond .eq 11, 3), (14, .aload_n 0, 1), (15, .iload_n 1, 1), (16, .invokevirtual 160, 3), (19, .goto 9, 3), (22, .aload_n 0, 1), (23, .bipush (-2), 2), (25, .invokevirtual 69, 3), (28, .ireturn, 1)]
def inX12_isEnough : List (Nat × Instr × Nat) := [(0, .iconst 1, 1), (1, .istore_n 2, 1), (2, .iconst 0, 1), (3, .istore_n 3, 1), (4, .iload_n 3, 1), (5, .aload_n 0, 1), (6, .getfield 7, 3), (9, .iconst 0, 1), (10, .iaload, 1), (11, .if_icmp .ge 46, 3), (14, .iconst 0, 1), (15, .istore 4, 2), (17, .iload 4, 2), (19, .iload_n 3, 1), (20, .if_icmp .ge 31, 3), (23, .iload_n 2, 1), (24, .ifCond .eq 19, 3), (27, .aload_n 0, 1), (28, .iload_n 3, 1), (29, .iload 4, 2), (31, .invokevirtual 157, 3), (34, .iload_n 1, 1), (35, .iand, 1), (36, .ifCond .eq 7, 3), (39, .iconst 1, 1), (40, .goto 4, 3), (43, .iconst 0, 1), (44, .istore_n 2, 1), (45, .iinc 4 1, 3), (48, .goto (-31), 3), (51, .iinc 3 1, 3), (54, .goto (-50), 3), (57, .iload_n 2, 1), (58, .ireturn, 1)]
def inX12_leastEnough : List (Nat × Instr × Nat) := [(0, .bipush 15, 2), (2, .istore_n 1, 1), (3, .bipush 15, 2), (5, .istore_n 2, 1), (6, .iload_n 2, 1), (7, .ifCond .lt 34, 3), (10, .aload_n 0, 1), (11, .iload_n 2, 1), (12, .invokevirtual 163, 3), (15, .ifCond .eq 18, 3), (18, .iload_n 2, 1), (19, .invokestatic 121, 3), (22, .iload_n 1, 1), (23, .invokestatic 121, 3), (26, .if_icmp .gt 7, 3), (29, .iload_n 2, 1), (30, .goto 4, 3), (33, .iload_n 1, 1), (34, .istore_n 1, 1), (35, .iinc 2 (-1), 3), (38, .goto (-32), 3), (41, .iload_n 1, 1), (42, .ireturn, 1)]
def inX12_enough : List (Nat × Instr × Nat) := [(0, .iload_n 1, 1), (1, .i2l, 1), (2, .ldc2_w 137, 3), (5, .ldc2_w 166, 3), (8, .invokestatic 42, 3), (11, .ifCond .ne 10, 3), (14, .aload_n 0, 1), (15, .bipush (-2), 2), (17, .invokevirtual 69, 3), (20, .ireturn, 1), (21, .iload_n 1, 1), (22, .iconst (-1), 1), (23, .if_icmp .ne 10, 3), (26, .aload_n 0, 1), (27, .invokevirtual 168, 3), (30, .goto 16, 3), (33, .aload_n 0, 1), (34, .iload_n 1, 1), (35, .invokevirtual 163, 3), (38, .ifCond .eq 7, 3), (41, .iconst 1, 1), (42, .goto 4, 3), (45, .iconst 0, 1), (46, .ireturn, 1)]
def inX12_span : List (Nat × Instr × Nat) := [(0, .iload_n 1, 1), (1, .i2l, 1), (2, .lconst 0, 1), (3, .ldc2_w 60, 3), (6, .invokestatic 42, 3), (9, .ifCond .ne 10, 3), (12, .aload_n 0, 1), (13, .bipush (-2), 2), (15, .invokevirtual 69, 3), (18, .ireturn, 1), (19, .iconst (-1), 1), (20, .istore_n 2, 1), (21, .iconst (-1), 1), (22, .istore_n 3, 1), (23, .iconst 0, 1), (24, .istore 4, 2), (26, .iload 4, 2), (28, .aload_n 0, 1), (29, .getfield 7, 3), (32, .iconst 0, 1), (33, .iaload, 1), (34, .if_icmp .ge 80, 3), (37, .iload 4, 2), (39, .iconst 1, 1), (40, .iadd, 1), (41, .istore 5, 2), (43, .iload 5, 2), (45, .aload_n 0, 1), (46, .getfield 7, 3), (49, .iconst 0, 1), (50, .iaload, 1), (51, .if_icmp .ge 57, 3), (54, .aload_n 0, 1), (55, .iload 4, 2), (57, .iload 5, 2), (59, .invokevirtual 134, 3), (62, .istore 6, 2), (64, .iload_n 2, 1), (65, .iconst (-1), 1), (66, .if_icmp .eq 24, 3), (69, .iload_n 1, 1), (70, .iconst 2, 1), (71, .irem, 1), (72, .ifCond .ne 12, 3), (75, .iload 6, 2), (77, .iload_n 2, 1), (78, .if_icmp .le 24, 3), (81, .goto 9, 3), (84, .iload 6, 2), (86, .iload_n 2, 1), (87, .if_icmp .ge 15, 3), (90, .iload 6, 2), (92, .istore_n 2, 1), (93, .bipush 16, 2), (95, .iload 4, 2), (97, .imul, 1), (98, .iload 5, 2), (100, .iadd, 1), (101, .istore_n 3, 1), (102, .iinc 5 1, 3), (105, .goto (-62), 3), (108, .iinc 4 1, 3), (111, .goto (-85), 3), (114, .iload_n 1, 1), (115, .iconst 2, 1), (116, .if_icmp .ge 7, 3), (119, .iload_n 2, 1), (120, .goto 4, 3), (123, .iload_n 3, 1), (124, .ireturn, 1)]
def inX12_isWord : List (Nat × Instr × Nat) := [(0, .iload_n 1, 1), (1, .i2l, 1), (2, .lconst 0, 1), (3, .aload_n 0, 1), (4, .getfield 7, 3), (7, .iconst 1, 1), (8, .iaload, 1), (9, .iconst 1, 1), (10, .isub, 1), (11, .i2l, 1), (12, .invokestatic 42, 3), (15, .ireturn, 1)]
def inX12_said : List (Nat × Instr × Nat) := [(0, .aload_n 0, 1), (1, .getfield 7, 3), (4, .bipush 82, 2), (6, .iconst 3, 1), (7, .iload_n 1, 1), (8, .imul, 1), (9, .iadd, 1), (10, .iload_n 2, 1), (11, .iadd, 1), (12, .iaload, 1), (13, .ireturn, 1)]
def inX12_sortOf : List (Nat × Instr × Nat) := [(0, .aload_n 0, 1), (1, .aload_n 0, 1), (2, .iload_n 1, 1), (3, .iconst 0, 1), (4, .invokevirtual 171, 3), (7, .iconst 4, 1), (8, .invokevirtual 52, 3), (11, .ireturn, 1)]
def inX12_isSpot : List (Nat × Instr × Nat) := [(0, .iload_n 0, 1), (1, .i2l, 1), (2, .lconst 0, 1), (3, .ldc2_w 93, 3), (6, .invokestatic 42, 3), (9, .ireturn, 1)]
def inX12_canSay : List (Nat × Instr × Nat) := [(0, .aload_n 0, 1), (1, .iload_n 1, 1), (2, .invokevirtual 79, 3), (5, .ifCond .eq 31, 3), (8, .iload_n 2, 1), (9, .i2l, 1), (10, .ldc2_w 137, 3), (13, .ldc2_w 93, 3), (16, .invokestatic 42, 3), (19, .ifCond .eq 17, 3), (22, .iload_n 3, 1), (23, .i2l, 1), (24, .ldc2_w 137, 3), (27, .ldc2_w 93, 3), (30, .invokestatic 42, 3), (33, .ifCond .ne 8, 3), (36, .bipush (-2), 2), (38, .goto 20, 3), (41, .aload_n 0, 1), (42, .getfield 7, 3), (45, .iconst 1, 1), (46, .iaload, 1), (47, .bipush 16, 2), (49, .if_icmp .ne 8, 3), (52, .bipush (-4), 2), (54, .goto 4, 3), (57, .iconst 0, 1), (58, .ireturn, 1)]
def inX12_says : List (Nat × Instr × Nat) := [(0, .bipush 82, 2), (2, .iconst 3, 1), (3, .aload_n 0, 1), (4, .getfield 7, 3), (7, .iconst 1, 1), (8, .iaload, 1), (9, .imul, 1), (10, .iadd, 1), (11, .istore 4, 2), (13, .aload_n 0, 1), (14, .getfield 7, 3), (17, .iload 4, 2), (19, .iload_n 1, 1), (20, .iastore, 1), (21, .aload_n 0, 1), (22, .getfield 7, 3), (25, .iload 4, 2), (27, .iconst 1, 1), (28, .iadd, 1), (29, .iload_n 2, 1), (30, .iastore, 1), (31, .aload_n 0, 1), (32, .getfield 7, 3), (35, .iload 4, 2), (37, .iconst 2, 1), (38, .iadd, 1), (39, .iload_n 3, 1), (40, .iastore, 1), (41, .aload_n 0, 1), (42, .getfield 7, 3), (45, .iconst 1, 1), (46, .dup2, 1), (47, .iaload, 1), (48, .iconst 1, 1), (49, .iadd, 1), (50, .iastore, 1), (51, .aload_n 0, 1), (52, .getfield 7, 3), (55, .iconst 1, 1), (56, .iaload, 1), (57, .iconst 1, 1), (58, .isub, 1), (59, .ireturn, 1)]
def inX12_word : List (Nat × Instr × Nat) := [(0, .aload_n 0, 1), (1, .iload_n 1, 1), (2, .iload_n 2, 1), (3, .iload_n 3, 1), (4, .invokevirtual 174, 3), (7, .istore 4, 2), (9, .iload 4, 2), (11, .ifCond .ge 10, 3), (14, .aload_n 0, 1), (15, .iload 4, 2), (17, .invokevirtual 69, 3), (20, .ireturn, 1), (21, .aload_n 0, 1), (22, .invokevirtual 73, 3), (25, .aload_n 0, 1), (26, .iload_n 1, 1), (27, .iload_n 2, 1), (28, .iload_n 3, 1), (29, .invokevirtual 177, 3), (32, .ireturn, 1)]
def inX12_cuts : List (Nat × Instr × Nat) := [(0, .aload_n 0, 1), (1, .iload_n 1, 1), (2, .invokevirtual 180, 3), (5, .ifCond .ne 10, 3), (8, .aload_n 0, 1), (9, .bipush (-2), 2), (11, .invokevirtual 69, 3), (14, .ireturn, 1), (15, .aload_n 0, 1), (16, .invokevirtual 73, 3), (19, .aload_n 0, 1), (20, .getfield 7, 3), (23, .iconst 1, 1), (24, .dup2, 1), (25, .iaload, 1), (26, .iconst 1, 1), (27, .isub, 1), (28, .iastore, 1), (29, .bipush 82, 2), (31, .iconst 3, 1), (32, .iload_n 1, 1), (33, .imul, 1), (34, .iadd, 1), (35, .istore_n 2, 1), (36, .iload_n 2, 1), (37, .bipush 82, 2), (39, .iconst 3, 1), (40, .aload_n 0, 1), (41, .getfield 7, 3), (44, .iconst 1, 1), (45, .iaload, 1), (46, .imul, 1), (47, .iadd, 1), (48, .if_icmp .ge 23, 3), (51, .aload_n 0, 1), (52, .getfield 7, 3), (55, .iload_n 2, 1), (56, .aload_n 0, 1), (57, .getfield 7, 3), (60, .iload_n 2, 1), (61, .iconst 3, 1), (62, .iadd, 1), (63, .iaload, 1), (64, .iastore, 1), (65, .iinc 2 1, 3), (68, .goto (-32), 3), (71, .aload_n 0, 1), (72, .getfield 7, 3), (75, .iconst 1, 1), (76, .iaload, 1), (77, .ireturn, 1)]
def inX12_swaps : List (Nat × Instr × Nat) := [(0, .iconst 0, 1), (1, .istore_n 3, 1), (2, .iload_n 3, 1), (3, .iconst 3, 1), (4, .if_icmp .ge 51, 3), (7, .aload_n 0, 1), (8, .iload_n 1, 1), (9, .iload_n 3, 1), (10, .invokevirtual 171, 3), (13, .istore 4, 2), (15, .aload_n 0, 1), (16, .getfield 7, 3), (19, .bipush 82, 2), (21, .iconst 3, 1), (22, .iload_n 1, 1), (23, .imul, 1), (24, .iadd, 1), (25, .iload_n 3, 1), (26, .iadd, 1), (27, .aload_n 0, 1), (28, .iload_n 2, 1), (29, .iload_n 3, 1), (30, .invokevirtual 171, 3), (33, .iastore, 1), (34, .aload_n 0, 1), (35, .getfield 7, 3), (38, .bipush 82, 2), (40, .iconst 3, 1), (41, .iload_n 2, 1), (42, .imul, 1), (43, .iadd, 1), (44, .iload_n 3, 1), (45, .iadd, 1), (46, .iload 4, 2), (48, .iastore, 1), (49, .iinc 3 1, 3), (52, .goto (-50), 3), (55, .return_, 1)]
def inX12_shifts : List (Nat × Instr × Nat) := [(0, .aload_n 0, 1), (1, .iload_n 1, 1), (2, .invokevirtual 180, 3), (5, .ifCond .eq 11, 3), (8, .aload_n 0, 1), (9, .iload_n 2, 1), (10, .invokevirtual 180, 3), (13, .ifCond .ne 10, 3), (16, .aload_n 0, 1), (17, .bipush (-2), 2), (19, .invokevirtual 69, 3), (22, .ireturn, 1), (23, .aload_n 0, 1), (24, .invokevirtual 73, 3), (27, .iload_n 1, 1), (28, .istore_n 3, 1), (29, .iload_n 3, 1), (30, .iload_n 2, 1), (31, .if_icmp .eq 32, 3), (34, .iload_n 3, 1), (35, .iload_n 2, 1), (36, .if_icmp .ge 9, 3), (39, .iload_n 3, 1), (40, .iconst 1, 1), (41, .iadd, 1), (42, .goto 6, 3), (45, .iload_n 3, 1), (46, .iconst 1, 1), (47, .isub, 1), (48, .istore 4, 2), (50, .aload_n 0, 1), (51, .iload_n 3, 1), (52, .iload 4, 2), (54, .invokevirtual 183, 3), (57, .iload 4, 2), (59, .istore_n 3, 1), (60, .goto (-31), 3), (63, .iload_n 1, 1), (64, .iload_n 2, 1), (65, .invokestatic 124, 3), (68, .ireturn, 1)]
def inX12_clearsAll : List (Nat × Instr × Nat) := [(0, .aload_n 0, 1), (1, .getfield 7, 3), (4, .iconst 1, 1), (5, .iaload, 1), (6, .istore_n 1, 1), (7, .aload_n 0, 1), (8, .getfield 7, 3), (11, .iconst 1, 1), (12, .iconst 0, 1), (13, .iastore, 1), (14, .iload_n 1, 1), (15, .ireturn, 1)]
def inX12_clears : List (Nat × Instr × Nat) := [(0, .aload_n 0, 1), (1, .invokevirtual 73, 3), (4, .aload_n 0, 1), (5, .invokevirtual 186, 3), (8, .ireturn, 1)]
def inX12_atSpot : List (Nat × Instr × Nat) := [(0, .iconst (-1), 1), (1, .istore_n 3, 1), (2, .iconst 0, 1), (3, .istore 4, 2), (5, .iload 4, 2), (7, .iload_n 2, 1), (8, .if_icmp .ge 53, 3), (11, .iload 4, 2), (13, .aload_n 0, 1), (14, .getfield 7, 3), (17, .iconst 1, 1), (18, .iaload, 1), (19, .if_icmp .ge 42, 3), (22, .aload_n 0, 1), (23, .iload 4, 2), (25, .invokevirtual 189, 3), (28, .iconst 1, 1), (29, .if_icmp .ne 24, 3), (32, .aload_n 0, 1), (33, .iload 4, 2), (35, .iconst 2, 1), (36, .invokevirtual 171, 3), (39, .iload_n 1, 1), (40, .if_icmp .ne 13, 3), (43, .aload_n 0, 1), (44, .iload 4, 2), (46, .iconst 0, 1), (47, .invokevirtual 171, 3), (50, .goto 4, 3), (53, .iload_n 3, 1), (54, .istore_n 3, 1), (55, .iinc 4 1, 3), (58, .goto (-53), 3), (61, .iload_n 3, 1), (62, .ireturn, 1)]
def inX12_meant : List (Nat × Instr × Nat) := [(0, .aload_n 0, 1), (1, .iload_n 1, 1), (2, .iload_n 2, 1), (3, .invokevirtual 171, 3), (6, .istore_n 3, 1), (7, .iload_n 3, 1), (8, .iconst (-1), 1), (9, .if_icmp .ne 7, 3), (12, .iconst (-1), 1), (13, .goto 9, 3), (16, .aload_n 0, 1), (17, .iload_n 3, 1), (18, .iload_n 1, 1), (19, .invokevirtual 192, 3), (22, .ireturn, 1)]
def inX12_isVain : List (Nat × Instr × Nat) := [(0, .aload_n 0, 1), (1, .iload_n 1, 1), (2, .invokevirtual 189, 3), (5, .lookupswitch 89 #[(2, 27), (3, 43)], 27), (32, .aload_n 0, 1), (33, .iload_n 1, 1), (34, .iconst 2, 1), (35, .invokevirtual 195, 3), (38, .iconst (-1), 1), (39, .if_icmp .ne 7, 3), (42, .iconst 1, 1), (43, .goto 4, 3), (46, .iconst 0, 1), (47, .ireturn, 1), (48, .aload_n 0, 1), (49, .iload_n 1, 1), (50, .iconst 1, 1), (51, .invokevirtual 171, 3), (54, .iconst (-1), 1), (55, .if_icmp .eq 13, 3), (58, .aload_n 0, 1), (59, .iload_n 1, 1), (60, .iconst 1, 1), (61, .invokevirtual 195, 3), (64, .iconst (-1), 1), (65, .if_icmp .eq 23, 3), (68, .aload_n 0, 1), (69, .iload_n 1, 1), (70, .iconst 2, 1), (71, .invokevirtual 171, 3), (74, .iconst (-1), 1), (75, .if_icmp .eq 17, 3), (78, .aload_n 0, 1), (79, .iload_n 1, 1), (80, .iconst 2, 1), (81, .invokevirtual 195, 3), (84, .iconst (-1), 1), (85, .if_icmp .ne 7, 3), (88, .iconst 1, 1), (89, .goto 4, 3), (92, .iconst 0, 1), (93, .ireturn, 1), (94, .iconst 0, 1), (95, .ireturn, 1)]
def inX12_clauseOf : List (Nat × Instr × Nat) := [(0, .iconst 0, 1), (1, .istore_n 2, 1), (2, .iconst 0, 1), (3, .istore_n 3, 1), (4, .iload_n 3, 1), (5, .iload_n 1, 1), (6, .if_icmp .ge 26, 3), (9, .iload_n 2, 1), (10, .aload_n 0, 1), (11, .iload_n 3, 1), (12, .invokevirtual 189, 3), (15, .iconst 3, 1), (16, .if_icmp .ne 7, 3), (19, .iconst 1, 1), (20, .goto 4, 3), (23, .iconst 0, 1), (24, .iadd, 1), (25, .istore_n 2, 1), (26, .iinc 3 1, 3), (29, .goto (-25), 3), (32, .iload_n 2, 1), (33, .ireturn, 1)]
def inX12_wordIs : List (Nat × Instr × Nat) := [(0, .aload_n 0, 1), (1, .iload_n 1, 1), (2, .invokevirtual 189, 3), (5, .istore_n 3, 1), (6, .iload_n 2, 1), (7, .tableswitch 95 3 6 #[29, 35, 49, 79], 29), (36, .aload_n 0, 1), (37, .iload_n 1, 1), (38, .invokevirtual 198, 3), (41, .ireturn, 1), (42, .aload_n 0, 1), (43, .iload_n 1, 1), (44, .invokevirtual 201, 3), (47, .ifCond .eq 7, 3), (50, .iconst 1, 1), (51, .goto 4, 3), (54, .iconst 0, 1), (55, .ireturn, 1), (56, .iload_n 3, 1), (57, .iconst 2, 1), (58, .if_icmp .ne 12, 3), (61, .aload_n 0, 1), (62, .iload_n 1, 1), (63, .iconst 2, 1), (64, .invokevirtual 195, 3), (67, .goto 18, 3), (70, .iload_n 3, 1), (71, .iconst 3, 1), (72, .if_icmp .ne 12, 3), (75, .aload_n 0, 1), (76, .iload_n 1, 1), (77, .iconst 1, 1), (78, .invokevirtual 195, 3), (81, .goto 4, 3), (84, .iconst (-1), 1), (85, .ireturn, 1), (86, .iload_n 3, 1), (87, .iconst 3, 1), (88, .if_icmp .ne 12, 3), (91, .aload_n 0, 1), (92, .iload_n 1, 1), (93, .iconst 2, 1), (94, .invokevirtual 195, 3), (97, .goto 4, 3), (100, .iconst (-1), 1), (101, .ireturn, 1), (102, .aload_n 0, 1), (103, .iload_n 1, 1), (104, .iload_n 2, 1), (105, .invokevirtual 171, 3), (108, .ireturn, 1)]
def inX12_wordOf : List (Nat × Instr × Nat) := [(0, .aload_n 0, 1), (1, .iload_n 1, 1), (2, .invokevirtual 180, 3), (5, .ifCond .eq 24, 3), (8, .iload_n 2, 1), (9, .i2l, 1), (10, .lconst 0, 1), (11, .ldc2_w 204, 3), (14, .invokestatic 42, 3), (17, .ifCond .eq 12, 3), (20, .aload_n 0, 1), (21, .iload_n 1, 1), (22, .iload_n 2, 1), (23, .invokevirtual 206, 3), (26, .goto 9, 3), (29, .aload_n 0, 1), (30, .bipush (-2), 2), (32, .invokevirtual 69, 3), (35, .ireturn, 1)]
def inX12_at : List (Nat × Instr × Nat) := [(0, .iload_n 1, 1), (1, .invokestatic 209, 3), (4, .ifCond .eq 24, 3), (7, .iload_n 2, 1), (8, .i2l, 1), (9, .lconst 0, 1), (10, .ldc2_w 115, 3), (13, .invokestatic 42, 3), (16, .ifCond .eq 12, 3), (19, .aload_n 0, 1), (20, .iload_n 1, 1), (21, .iload_n 2, 1), (22, .invokevirtual 192, 3), (25, .goto 9, 3), (28, .aload_n 0, 1), (29, .bipush (-2), 2), (31, .invokevirtual 69, 3), (34, .ireturn, 1)]
def inX12_rank : List (Nat × Instr × Nat) := [(0, .aload_n 0, 1), (1, .iload_n 1, 1), (2, .invokevirtual 189, 3), (5, .istore_n 2, 1), (6, .iload_n 2, 1), (7, .ifCond .ne 7, 3), (10, .iconst 0, 1), (11, .goto 13, 3), (14, .iload_n 2, 1), (15, .iconst 3, 1), (16, .if_icmp .ne 7, 3), (19, .iconst 2, 1), (20, .goto 4, 3), (23, .iconst 1, 1), (24, .ireturn, 1)]
def inX12_swapsOfAll : List (Nat × Instr × Nat) := [(0, .iconst 0, 1), (1, .istore_n 1, 1), (2, .iconst 0, 1), (3, .istore_n 2, 1), (4, .iload_n 2, 1), (5, .aload_n 0, 1), (6, .getfield 7, 3), (9, .iconst 1, 1), (10, .iaload, 1), (11, .if_icmp .ge 56, 3), (14, .iconst 0, 1), (15, .istore_n 3, 1), (16, .iload_n 3, 1), (17, .iload_n 2, 1), (18, .if_icmp .ge 43, 3), (21, .iload_n 1, 1), (22, .aload_n 0, 1), (23, .iload_n 3, 1), (24, .invokevirtual 198, 3), (27, .aload_n 0, 1), (28, .iload_n 2, 1), (29, .invokevirtual 198, 3), (32, .if_icmp .ne 20, 3), (35, .aload_n 0, 1), (36, .iload_n 3, 1), (37, .invokevirtual 212, 3), (40, .aload_n 0, 1), (41, .iload_n 2, 1), (42, .invokevirtual 212, 3), (45, .if_icmp .le 7, 3), (48, .iconst 1, 1), (49, .goto 4, 3), (52, .iconst 0, 1), (53, .iadd, 1), (54, .istore_n 1, 1), (55, .iinc 3 1, 3), (58, .goto (-42), 3), (61, .iinc 2 1, 3), (64, .goto (-60), 3), (67, .iload_n 1, 1), (68, .ireturn, 1)]
def inX12_ordered : List (Nat × Instr × Nat) := [(0, .iconst 0, 1), (1, .istore_n 2, 1), (2, .iconst 0, 1), (3, .istore_n 3, 1), (4, .iload_n 3, 1), (5, .aload_n 0, 1), (6, .getfield 7, 3), (9, .iconst 1, 1), (10, .iaload, 1), (11, .if_icmp .gt 107, 3), (14, .iconst 0, 1), (15, .istore 4, 2), (17, .iconst 0, 1), (18, .istore 5, 2), (20, .iload 5, 2), (22, .aload_n 0, 1), (23, .getfield 7, 3), (26, .iconst 1, 1), (27, .iaload, 1), (28, .if_icmp .ge 71, 3), (31, .aload_n 0, 1), (32, .iload 5, 2), (34, .invokevirtual 212, 3), (37, .iconst 2, 1), (38, .if_icmp .eq 23, 3), (41, .aload_n 0, 1), (42, .iload 5, 2), (44, .invokevirtual 212, 3), (47, .iload 5, 2), (49, .iload_n 3, 1), (50, .if_icmp .ge 7, 3), (53, .iconst 0, 1), (54, .goto 4, 3), (57, .iconst 1, 1), (58, .if_icmp .ne 7, 3), (61, .iconst 1, 1), (62, .goto 4, 3), (65, .iconst 0, 1), (66, .istore 6, 2), (68, .iload 4, 2), (70, .aload_n 0, 1), (71, .iload 5, 2), (73, .invokevirtual 198, 3), (76, .iload_n 1, 1), (77, .if_icmp .ne 12, 3), (80, .iload 6, 2), (82, .ifCond .eq 7, 3), (85, .iconst 1, 1), (86, .goto 4, 3), (89, .iconst 0, 1), (90, .iadd, 1), (91, .istore 4, 2), (93, .iinc 5 1, 3), (96, .goto (-76), 3), (99, .iload 4, 2), (101, .iload_n 2, 1), (102, .if_icmp .le 8, 3), (105, .iload 4, 2), (107, .goto 4, 3), (110, .iload_n 2, 1), (111, .istore_n 2, 1), (112, .iinc 3 1, 3), (115, .goto (-111), 3), (118, .iload_n 2, 1), (119, .ireturn, 1)]
def inX12_clauses : List (Nat × Instr × Nat) := [(0, .aload_n 0, 1), (1, .getfield 7, 3), (4, .iconst 1, 1), (5, .iaload, 1), (6, .istore_n 1, 1), (7, .iload_n 1, 1), (8, .ifCond .ne 7, 3), (11, .iconst 0, 1), (12, .goto 12, 3), (15, .aload_n 0, 1), (16, .iload_n 1, 1), (17, .iconst 1, 1), (18, .isub, 1), (19, .invokevirtual 198, 3), (22, .iconst 1, 1), (23, .iadd, 1), (24, .ireturn, 1)]
def inX12_moved : List (Nat × Instr × Nat) := [(0, .iconst 0, 1), (1, .istore_n 1, 1), (2, .iconst 0, 1), (3, .istore_n 2, 1), (4, .iload_n 2, 1), (5, .aload_n 0, 1), (6, .invokevirtual 215, 3), (9, .if_icmp .ge 17, 3), (12, .iload_n 1, 1), (13, .aload_n 0, 1), (14, .iload_n 2, 1), (15, .invokevirtual 218, 3), (18, .iadd, 1), (19, .istore_n 1, 1), (20, .iinc 2 1, 3), (23, .goto (-19), 3), (26, .aload_n 0, 1), (27, .getfield 7, 3), (30, .iconst 1, 1), (31, .iaload, 1), (32, .iload_n 1, 1), (33, .isub, 1), (34, .ireturn, 1)]
def inX12_vain : List (Nat × Instr × Nat) := [(0, .iconst 0, 1), (1, .istore_n 1, 1), (2, .iconst 0, 1), (3, .istore_n 2, 1), (4, .iload_n 2, 1), (5, .aload_n 0, 1), (6, .getfield 7, 3), (9, .iconst 1, 1), (10, .iaload, 1), (11, .if_icmp .ge 25, 3), (14, .iload_n 1, 1), (15, .aload_n 0, 1), (16, .iload_n 2, 1), (17, .invokevirtual 201, 3), (20, .ifCond .eq 7, 3), (23, .iconst 1, 1), (24, .goto 4, 3), (27, .iconst 0, 1), (28, .iadd, 1), (29, .istore_n 1, 1), (30, .iinc 2 1, 3), (33, .goto (-29), 3), (36, .iload_n 1, 1), (37, .ireturn, 1)]
def inX12_spots : List (Nat × Instr × Nat) := [(0, .iconst 0, 1), (1, .istore_n 1, 1), (2, .iconst 0, 1), (3, .istore_n 2, 1), (4, .iload_n 2, 1), (5, .aload_n 0, 1), (6, .getfield 7, 3), (9, .iconst 1, 1), (10, .iaload, 1), (11, .if_icmp .ge 47, 3), (14, .iconst 1, 1), (15, .istore_n 3, 1), (16, .iload_n 3, 1), (17, .iconst 3, 1), (18, .if_icmp .ge 34, 3), (21, .iload_n 1, 1), (22, .aload_n 0, 1), (23, .iload_n 2, 1), (24, .iload_n 3, 1), (25, .invokevirtual 171, 3), (28, .iconst (-1), 1), (29, .if_icmp .ne 7, 3), (32, .iconst 0, 1), (33, .goto 11, 3), (36, .iconst 1, 1), (37, .aload_n 0, 1), (38, .iload_n 2, 1), (39, .iload_n 3, 1), (40, .invokevirtual 171, 3), (43, .ishl, 1), (44, .ior, 1), (45, .istore_n 1, 1), (46, .iinc 3 1, 3), (49, .goto (-33), 3), (52, .iinc 2 1, 3), (55, .goto (-51), 3), (58, .iload_n 1, 1), (59, .ireturn, 1)]
def inX12_way : List (Nat × Instr × Nat) := [(0, .iconst 0, 1), (1, .istore_n 1, 1), (2, .iconst (-1), 1), (3, .istore_n 2, 1), (4, .iconst 0, 1), (5, .istore_n 3, 1), (6, .iload_n 3, 1), (7, .iconst 2, 1), (8, .aload_n 0, 1), (9, .getfield 7, 3), (12, .iconst 1, 1), (13, .iaload, 1), (14, .imul, 1), (15, .if_icmp .ge 60, 3), (18, .aload_n 0, 1), (19, .iload_n 3, 1), (20, .iconst 2, 1), (21, .idiv, 1), (22, .iconst 1, 1), (23, .iload_n 3, 1), (24, .iconst 2, 1), (25, .irem, 1), (26, .iadd, 1), (27, .invokevirtual 171, 3), (30, .istore 4, 2), (32, .iload 4, 2), (34, .iconst (-1), 1), (35, .if_icmp .eq 34, 3), (38, .iload_n 1, 1), (39, .iload_n 2, 1), (40, .iconst (-1), 1), (41, .if_icmp .ne 7, 3), (44, .iconst 0, 1), (45, .goto 19, 3), (48, .aload_n 0, 1), (49, .getfield 19, 3), (52, .iload_n 2, 1), (53, .iaload, 1), (54, .aload_n 0, 1), (55, .getfield 19, 3), (58, .iload 4, 2), (60, .iaload, 1), (61, .invokestatic 124, 3), (64, .iadd, 1), (65, .istore_n 1, 1), (66, .iload 4, 2), (68, .istore_n 2, 1), (69, .iinc 3 1, 3), (72, .goto (-66), 3), (75, .iload_n 1, 1), (76, .ireturn, 1)]
def inX12_wayNow : List (Nat × Instr × Nat) := [(0, .iconst 0, 1), (1, .istore_n 1, 1), (2, .iload_n 1, 1), (3, .bipush 6, 2), (5, .if_icmp .ge 25, 3), (8, .aload_n 0, 1), (9, .getfield 19, 3), (12, .iload_n 1, 1), (13, .aload_n 0, 1), (14, .getfield 7, 3), (17, .sipush 134, 3), (20, .iload_n 1, 1), (21, .iadd, 1), (22, .iaload, 1), (23, .iastore, 1), (24, .iinc 1 1, 3), (27, .goto (-25), 3), (30, .aload_n 0, 1), (31, .invokevirtual 221, 3), (34, .ireturn, 1)]
def inX12_all : List (Nat × Instr × Nat) := [(0, .iload_n 1, 1), (1, .tableswitch 80 0 6 #[43, 50, 55, 60, 65, 70, 75], 43), (44, .aload_n 0, 1), (45, .getfield 7, 3), (48, .iconst 1, 1), (49, .iaload, 1), (50, .ireturn, 1), (51, .aload_n 0, 1), (52, .invokevirtual 215, 3), (55, .ireturn, 1), (56, .aload_n 0, 1), (57, .invokevirtual 224, 3), (60, .ireturn, 1), (61, .aload_n 0, 1), (62, .invokevirtual 227, 3), (65, .ireturn, 1), (66, .aload_n 0, 1), (67, .invokevirtual 230, 3), (70, .ireturn, 1), (71, .aload_n 0, 1), (72, .invokevirtual 233, 3), (75, .ireturn, 1), (76, .aload_n 0, 1), (77, .invokevirtual 236, 3), (80, .ireturn, 1), (81, .aload_n 0, 1), (82, .bipush (-2), 2), (84, .invokevirtual 69, 3), (87, .ireturn, 1)]
def inX12_spotAt : List (Nat × Instr × Nat) := [(0, .iconst 0, 1), (1, .istore_n 2, 1), (2, .aload_n 0, 1), (3, .getfield 7, 3), (6, .sipush 134, 3), (9, .iload_n 2, 1), (10, .iadd, 1), (11, .iaload, 1), (12, .iload_n 1, 1), (13, .if_icmp .eq 9, 3), (16, .iinc 2 1, 3), (19, .goto (-17), 3), (22, .iload_n 2, 1), (23, .ireturn, 1)]
def inX12_lays : List (Nat × Instr × Nat) := [(0, .iload_n 1, 1), (1, .invokestatic 209, 3), (4, .ifCond .eq 10, 3), (7, .iload_n 2, 1), (8, .invokestatic 209, 3), (11, .ifCond .ne 10, 3), (14, .aload_n 0, 1), (15, .bipush (-2), 2), (17, .invokevirtual 69, 3), (20, .ireturn, 1), (21, .aload_n 0, 1), (22, .invokevirtual 73, 3), (25, .aload_n 0, 1), (26, .getfield 7, 3), (29, .sipush 134, 3), (32, .iload_n 1, 1), (33, .iadd, 1), (34, .iaload, 1), (35, .istore_n 3, 1), (36, .aload_n 0, 1), (37, .getfield 7, 3), (40, .sipush 134, 3), (43, .aload_n 0, 1), (44, .iload_n 2, 1), (45, .invokevirtual 239, 3), (48, .iadd, 1), (49, .iload_n 3, 1), (50, .iastore, 1), (51, .aload_n 0, 1), (52, .getfield 7, 3), (55, .sipush 134, 3), (58, .iload_n 1, 1), (59, .iadd, 1), (60, .iload_n 2, 1), (61, .iastore, 1), (62, .iload_n 3, 1), (63, .ireturn, 1)]
def inX12_lay : List (Nat × Instr × Nat) := [(0, .iload_n 1, 1), (1, .invokestatic 209, 3), (4, .ifCond .eq 16, 3), (7, .aload_n 0, 1), (8, .getfield 7, 3), (11, .sipush 134, 3), (14, .iload_n 1, 1), (15, .iadd, 1), (16, .iaload, 1), (17, .goto 9, 3), (20, .aload_n 0, 1), (21, .bipush (-2), 2), (23, .invokevirtual 69, 3), (26, .ireturn, 1)]
def inX12_tries : List (Nat × Instr × Nat) := [(0, .iload_n 1, 1), (1, .istore_n 2, 1), (2, .bipush 63, 2), (4, .istore_n 3, 1), (5, .iconst 0, 1), (6, .istore 4, 2), (8, .iload 4, 2), (10, .bipush 6, 2), (12, .if_icmp .ge 109, 3), (15, .iconst 1, 1), (16, .istore 5, 2), (18, .iconst 2, 1), (19, .istore 6, 2), (21, .iload 6, 2), (23, .bipush 6, 2), (25, .iload 4, 2), (27, .isub, 1), (28, .if_icmp .ge 16, 3), (31, .iload 5, 2), (33, .iload 6, 2), (35, .imul, 1), (36, .istore 5, 2), (38, .iinc 6 1, 3), (41, .goto (-20), 3), (44, .iload_n 2, 1), (45, .iload 5, 2), (47, .idiv, 1), (48, .istore 6, 2), (50, .iload_n 2, 1), (51, .iload 5, 2), (53, .irem, 1), (54, .istore_n 2, 1), (55, .iconst 0, 1), (56, .istore 7, 2), (58, .iload_n 3, 1), (59, .iload 7, 2), (61, .invokestatic 151, 3), (64, .ifCond .eq 8, 3), (67, .iload 6, 2), (69, .ifCond .le 28, 3), (72, .iload 6, 2), (74, .iload_n 3, 1), (75, .iload 7, 2), (77, .invokestatic 151, 3), (80, .ifCond .eq 7, 3), (83, .iconst 1, 1), (84, .goto 4, 3), (87, .iconst 0, 1), (88, .isub, 1), (89, .istore 6, 2), (91, .iinc 7 1, 3), (94, .goto (-36), 3), (97, .aload_n 0, 1), (98, .getfield 19, 3), (101, .iload 4, 2), (103, .iload 7, 2), (105, .iastore, 1), (106, .iload_n 3, 1), (107, .iconst 1, 1), (108, .iload 7, 2), (110, .ishl, 1), (111, .iconst (-1), 1), (112, .ixor, 1), (113, .iand, 1), (114, .istore_n 3, 1), (115, .iinc 4 1, 3), (118, .goto (-110), 3), (121, .return_, 1)]
def inX12_bestWay : List (Nat × Instr × Nat) := [(0, .iconst (-1), 1), (1, .istore_n 1, 1), (2, .iconst 0, 1), (3, .istore_n 2, 1), (4, .iload_n 2, 1), (5, .sipush 720, 3), (8, .if_icmp .ge 61, 3), (11, .aload_n 0, 1), (12, .iload_n 2, 1), (13, .invokevirtual 242, 3), (16, .aload_n 0, 1), (17, .invokevirtual 221, 3), (20, .istore_n 3, 1), (21, .iload_n 1, 1), (22, .iconst (-1), 1), (23, .if_icmp .eq 8, 3), (26, .iload_n 3, 1), (27, .iload_n 1, 1), (28, .if_icmp .ge 35, 3), (31, .iload_n 3, 1), (32, .istore_n 1, 1), (33, .iconst 0, 1), (34, .istore 4, 2), (36, .iload 4, 2), (38, .bipush 6, 2), (40, .if_icmp .ge 23, 3), (43, .aload_n 0, 1), (44, .getfield 22, 3), (47, .iload 4, 2), (49, .aload_n 0, 1), (50, .getfield 19, 3), (53, .iload 4, 2), (55, .iaload, 1), (56, .iastore, 1), (57, .iinc 4 1, 3), (60, .goto (-24), 3), (63, .iinc 2 1, 3), (66, .goto (-62), 3), (69, .iload_n 1, 1), (70, .ireturn, 1)]
def inX12_best : List (Nat × Instr × Nat) := [(0, .iload_n 1, 1), (1, .i2l, 1), (2, .ldc2_w 137, 3), (5, .ldc2_w 93, 3), (8, .invokestatic 42, 3), (11, .ifCond .ne 10, 3), (14, .aload_n 0, 1), (15, .bipush (-2), 2), (17, .invokevirtual 69, 3), (20, .ireturn, 1), (21, .aload_n 0, 1), (22, .invokevirtual 246, 3), (25, .istore_n 2, 1), (26, .iload_n 1, 1), (27, .iconst (-1), 1), (28, .if_icmp .ne 7, 3), (31, .iload_n 2, 1), (32, .goto 9, 3), (35, .aload_n 0, 1), (36, .getfield 22, 3), (39, .iload_n 1, 1), (40, .iaload, 1), (41, .ireturn, 1)]
def inX12_settles : List (Nat × Instr × Nat) := [(0, .aload_n 0, 1), (1, .invokevirtual 73, 3), (4, .aload_n 0, 1), (5, .invokevirtual 233, 3), (8, .aload_n 0, 1), (9, .invokevirtual 246, 3), (12, .isub, 1), (13, .istore_n 1, 1), (14, .iconst 0, 1), (15, .istore_n 2, 1), (16, .iload_n 2, 1), (17, .bipush 6, 2), (19, .if_icmp .ge 25, 3), (22, .aload_n 0, 1), (23, .getfield 7, 3), (26, .sipush 134, 3), (29, .iload_n 2, 1), (30, .iadd, 1), (31, .aload_n 0, 1), (32, .getfield 22, 3), (35, .iload_n 2, 1), (36, .iaload, 1), (37, .iastore, 1), (38, .iinc 2 1, 3), (41, .goto (-25), 3), (44, .iload_n 1, 1), (45, .ireturn, 1)]
def inX12_type : List (Nat × Instr × Nat) := [(0, .iload_n 1, 1), (1, .i2l, 1), (2, .lconst 0, 1), (3, .ldc2_w 249, 3), (6, .invokestatic 42, 3), (9, .ifCond .ne 10, 3), (12, .aload_n 0, 1), (13, .bipush (-2), 2), (15, .invokevirtual 69, 3), (18, .ireturn, 1), (19, .aload_n 0, 1), (20, .getfield 251, 3), (23, .bipush 120, 2), (25, .if_icmp .ne 10, 3), (28, .aload_n 0, 1), (29, .bipush (-4), 2), (31, .invokevirtual 69, 3), (34, .ireturn, 1), (35, .aload_n 0, 1), (36, .getfield 16, 3), (39, .aload_n 0, 1), (40, .getfield 251, 3), (43, .iload_n 1, 1), (44, .iastore, 1), (45, .aload_n 0, 1), (46, .dup, 1), (47, .getfield 251, 3), (50, .iconst 1, 1), (51, .iadd, 1), (52, .putfield 251, 3), (55, .aload_n 0, 1), (56, .getfield 251, 3), (59, .ireturn, 1)]
def inX12_clear : List (Nat × Instr × Nat) := [(0, .aload_n 0, 1), (1, .getfield 251, 3), (4, .istore_n 1, 1), (5, .aload_n 0, 1), (6, .iconst 0, 1), (7, .putfield 251, 3), (10, .iload_n 1, 1), (11, .ireturn, 1)]
def inX12_byteHere : List (Nat × Instr × Nat) := [(0, .aload_n 0, 1), (1, .getfield 254, 3), (4, .aload_n 0, 1), (5, .getfield 251, 3), (8, .if_icmp .ge 15, 3), (11, .aload_n 0, 1), (12, .getfield 16, 3), (15, .aload_n 0, 1), (16, .getfield 254, 3), (19, .iaload, 1), (20, .goto 4, 3), (23, .iconst (-1), 1), (24, .ireturn, 1)]
def inX12_blanks : List (Nat × Instr × Nat) := [(0, .aload_n 0, 1), (1, .invokevirtual 257, 3), (4, .bipush 32, 2), (6, .if_icmp .ne 16, 3), (9, .aload_n 0, 1), (10, .dup, 1), (11, .getfield 254, 3), (14, .iconst 1, 1), (15, .iadd, 1), (16, .putfield 254, 3), (19, .goto (-19), 3), (22, .return_, 1)]
def inX12_least : List (Nat × Instr × Nat) := [(0, .iload_n 0, 1), (1, .lookupswitch 72 #[(99, 70), (100, 68), (103, 63), (108, 65), (115, 59), (119, 61)], 59), (60, .iconst 5, 1), (61, .ireturn, 1), (62, .iconst 1, 1), (63, .ireturn, 1), (64, .iconst 2, 1), (65, .ireturn, 1), (66, .bipush 6, 2), (68, .ireturn, 1), (69, .iconst 1, 1), (70, .ireturn, 1), (71, .iconst 0, 1), (72, .ireturn, 1), (73, .iconst (-1), 1), (74, .ireturn, 1)]
def inX12_isFigure : List (Nat × Instr × Nat) := [(0, .aload_n 0, 1), (1, .invokevirtual 257, 3), (4, .i2l, 1), (5, .ldc2_w 260, 3), (8, .ldc2_w 262, 3), (11, .invokestatic 42, 3), (14, .ireturn, 1)]
def inX12_readsOrder : List (Nat × Instr × Nat) := [(0, .aload_n 0, 1), (1, .invokevirtual 257, 3), (4, .istore_n 1, 1), (5, .iload_n 1, 1), (6, .invokestatic 264, 3), (9, .iconst (-1), 1), (10, .if_icmp .ne 5, 3), (13, .iconst 0, 1), (14, .ireturn, 1), (15, .aload_n 0, 1), (16, .dup, 1), (17, .getfield 254, 3), (20, .iconst 1, 1), (21, .iadd, 1), (22, .putfield 254, 3), (25, .iconst 0, 1), (26, .istore_n 2, 1), (27, .aload_n 0, 1), (28, .invokevirtual 267, 3), (31, .aload_n 0, 1), (32, .invokevirtual 270, 3), (35, .ifCond .eq 103, 3), (38, .iload_n 2, 1), (39, .iload_n 1, 1), (40, .bipush 119, 2), (42, .if_icmp .ne 7, 3), (45, .iconst 3, 1), (46, .goto 7, 3), (49, .iload_n 1, 1), (50, .invokestatic 264, 3), (53, .if_icmp .ge 85, 3), (56, .aload_n 0, 1), (57, .invokevirtual 257, 3), (60, .bipush 48, 2), (62, .isub, 1), (63, .istore_n 3, 1), (64, .aload_n 0, 1), (65, .dup, 1), (66, .getfield 254, 3), (69, .iconst 1, 1), (70, .iadd, 1), (71, .putfield 254, 3), (74, .aload_n 0, 1), (75, .invokevirtual 270, 3), (78, .ifCond .eq 35, 3), (81, .bipush 10, 2), (83, .iload_n 3, 1), (84, .imul, 1), (85, .aload_n 0, 1), (86, .invokevirtual 257, 3), (89, .iadd, 1), (90, .bipush 48, 2), (92, .isub, 1), (93, .istore_n 3, 1), (94, .aload_n 0, 1), (95, .dup, 1), (96, .getfield 254, 3), (99, .iconst 1, 1), (100, .iadd, 1), (101, .putfield 254, 3), (104, .aload_n 0, 1), (105, .invokevirtual 270, 3), (108, .ifCond .eq 5, 3), (111, .iconst 0, 1), (112, .ireturn, 1), (113, .aload_n 0, 1), (114, .getfield 31, 3), (117, .bipush 6, 2), (119, .aload_n 0, 1), (120, .getfield 274, 3), (123, .imul, 1), (124, .iload_n 2, 1), (125, .iadd, 1), (126, .iload_n 3, 1), (127, .iastore, 1), (128, .iinc 2 1, 3), (131, .aload_n 0, 1), (132, .invokevirtual 267, 3), (135, .goto (-104), 3), (138, .aload_n 0, 1), (139, .invokevirtual 257, 3), (142, .bipush 59, 2), (144, .if_icmp .ne 11, 3), (147, .iload_n 2, 1), (148, .iload_n 1, 1), (149, .invokestatic 264, 3), (152, .if_icmp .ge 5, 3), (155, .iconst 0, 1), (156, .ireturn, 1), (157, .aload_n 0, 1), (158, .dup, 1), (159, .getfield 254, 3), (162, .iconst 1, 1), (163, .iadd, 1), (164, .putfield 254, 3), (167, .aload_n 0, 1), (168, .getfield 25, 3), (171, .aload_n 0, 1), (172, .getfield 274, 3), (175, .iload_n 1, 1), (176, .iastore, 1), (177, .aload_n 0, 1), (178, .getfield 28, 3), (181, .aload_n 0, 1), (182, .getfield 274, 3), (185, .iload_n 2, 1), (186, .iastore, 1), (187, .aload_n 0, 1), (188, .dup, 1), (189, .getfield 274, 3), (192, .iconst 1, 1), (193, .iadd, 1), (194, .putfield 274, 3), (197, .iconst 1, 1), (198, .ireturn, 1)]
def inX12_readsAll : List (Nat × Instr × Nat) := [(0, .aload_n 0, 1), (1, .iconst 0, 1), (2, .putfield 254, 3), (5, .aload_n 0, 1), (6, .iconst 0, 1), (7, .putfield 274, 3), (10, .iconst 1, 1), (11, .istore_n 1, 1), (12, .aload_n 0, 1), (13, .invokevirtual 267, 3), (16, .iload_n 1, 1), (17, .ifCond .eq 37, 3), (20, .aload_n 0, 1), (21, .getfield 254, 3), (24, .aload_n 0, 1), (25, .getfield 251, 3), (28, .if_icmp .lt 10, 3), (31, .aload_n 0, 1), (32, .getfield 274, 3), (35, .ifCond .ne 19, 3), (38, .aload_n 0, 1), (39, .invokevirtual 277, 3), (42, .istore_n 1, 1), (43, .iload_n 1, 1), (44, .ifCond .eq (-28), 3), (47, .aload_n 0, 1), (48, .invokevirtual 267, 3), (51, .goto (-35), 3), (54, .iload_n 1, 1), (55, .ireturn, 1)]
def inX12_laysAll : List (Nat × Instr × Nat) := [(0, .iconst 0, 1), (1, .istore_n 2, 1), (2, .iconst 0, 1), (3, .istore_n 3, 1), (4, .iload_n 3, 1), (5, .bipush 6, 2), (7, .if_icmp .ge 45, 3), (10, .iload_n 2, 1), (11, .aload_n 0, 1), (12, .getfield 31, 3), (15, .iload_n 1, 1), (16, .iload_n 3, 1), (17, .iadd, 1), (18, .iaload, 1), (19, .i2l, 1), (20, .lconst 0, 1), (21, .ldc2_w 93, 3), (24, .invokestatic 42, 3), (27, .ifCond .eq 16, 3), (30, .iconst 1, 1), (31, .aload_n 0, 1), (32, .getfield 31, 3), (35, .iload_n 1, 1), (36, .iload_n 3, 1), (37, .iadd, 1), (38, .iaload, 1), (39, .ishl, 1), (40, .goto 4, 3), (43, .iconst 0, 1), (44, .ior, 1), (45, .istore_n 2, 1), (46, .iinc 3 1, 3), (49, .goto (-45), 3), (52, .iconst 0, 1), (53, .istore_n 3, 1), (54, .iload_n 3, 1), (55, .bipush 6, 2), (57, .if_icmp .ge 33, 3), (60, .iload_n 2, 1), (61, .bipush 63, 2), (63, .if_icmp .ne 27, 3), (66, .aload_n 0, 1), (67, .getfield 7, 3), (70, .sipush 134, 3), (73, .iload_n 3, 1), (74, .iadd, 1), (75, .aload_n 0, 1), (76, .getfield 31, 3), (79, .iload_n 1, 1), (80, .iload_n 3, 1), (81, .iadd, 1), (82, .iaload, 1), (83, .iastore, 1), (84, .iinc 3 1, 3), (87, .goto (-33), 3), (90, .iload_n 2, 1), (91, .bipush 63, 2), (93, .if_icmp .ne 7, 3), (96, .iconst 1, 1), (97, .goto 4, 3), (100, .iconst 0, 1), (101, .ireturn, 1)]
def inX12_does : List (Nat × Instr × Nat) := [(0, .bipush 6, 2), (2, .iload_n 1, 1), (3, .imul, 1), (4, .istore_n 2, 1), (5, .aload_n 0, 1), (6, .getfield 31, 3), (9, .iload_n 2, 1), (10, .iaload, 1), (11, .istore_n 3, 1), (12, .aload_n 0, 1), (13, .getfield 31, 3), (16, .iload_n 2, 1), (17, .iconst 1, 1), (18, .iadd, 1), (19, .iaload, 1), (20, .istore 4, 2), (22, .aload_n 0, 1), (23, .getfield 31, 3), (26, .iload_n 2, 1), (27, .iconst 2, 1), (28, .iadd, 1), (29, .iaload, 1), (30, .istore 5, 2), (32, .aload_n 0, 1), (33, .getfield 25, 3), (36, .iload_n 1, 1), (37, .iaload, 1), (38, .lookupswitch 270 #[(100, 241), (103, 207), (108, 235), (115, 50), (119, 119)], 50), (88, .aload_n 0, 1), (89, .iload_n 3, 1), (90, .iload 4, 2), (92, .iload 5, 2), (94, .aload_n 0, 1), (95, .getfield 31, 3), (98, .iload_n 2, 1), (99, .iconst 3, 1), (100, .iadd, 1), (101, .iaload, 1), (102, .aload_n 0, 1), (103, .getfield 31, 3), (106, .iload_n 2, 1), (107, .iconst 4, 1), (108, .iadd, 1), (109, .iaload, 1), (110, .invokevirtual 66, 3), (113, .ifCond .ne 7, 3), (116, .iconst 1, 1), (117, .goto 4, 3), (120, .iconst 0, 1), (121, .istore 6, 2), (123, .iload 6, 2), (125, .ifCond .eq 29, 3), (128, .aload_n 0, 1), (129, .iload_n 3, 1), (130, .iload 4, 2), (132, .iload 5, 2), (134, .aload_n 0, 1), (135, .getfield 31, 3), (138, .iload_n 2, 1), (139, .iconst 3, 1), (140, .iadd, 1), (141, .iaload, 1), (142, .aload_n 0, 1), (143, .getfield 31, 3), (146, .iload_n 2, 1), (147, .iconst 4, 1), (148, .iadd, 1), (149, .iaload, 1), (150, .invokevirtual 76, 3), (153, .pop, 1), (154, .iload 6, 2), (156, .ireturn, 1), (157, .aload_n 0, 1), (158, .getfield 28, 3), (161, .iload_n 1, 1), (162, .iaload, 1), (163, .iconst 3, 1), (164, .if_icmp .ne 8, 3), (167, .iload 4, 2), (169, .goto 4, 3), (172, .iconst (-1), 1), (173, .istore 7, 2), (175, .aload_n 0, 1), (176, .getfield 28, 3), (179, .iload_n 1, 1), (180, .iaload, 1), (181, .iconst 3, 1), (182, .if_icmp .ne 8, 3), (185, .iload 5, 2), (187, .goto 19, 3), (190, .aload_n 0, 1), (191, .getfield 28, 3), (194, .iload_n 1, 1), (195, .iaload, 1), (196, .iconst 2, 1), (197, .if_icmp .ne 8, 3), (200, .iload 4, 2), (202, .goto 4, 3), (205, .iconst (-1), 1), (206, .istore 8, 2), (208, .aload_n 0, 1), (209, .iload_n 3, 1), (210, .iload 7, 2), (212, .iload 8, 2), (214, .invokevirtual 174, 3), (217, .ifCond .ne 7, 3), (220, .iconst 1, 1), (221, .goto 4, 3), (224, .iconst 0, 1), (225, .istore 6, 2), (227, .iload 6, 2), (229, .ifCond .eq 13, 3), (232, .aload_n 0, 1), (233, .iload_n 3, 1), (234, .iload 7, 2), (236, .iload 8, 2), (238, .invokevirtual 177, 3), (241, .pop, 1), (242, .iload 6, 2), (244, .ireturn, 1), (245, .iload_n 3, 1), (246, .iload 4, 2), (248, .invokestatic 95, 3), (251, .istore 6, 2), (253, .iload 6, 2), (255, .ifCond .eq 15, 3), (258, .aload_n 0, 1), (259, .getfield 7, 3), (262, .sipush 130, 3), (265, .iload_n 3, 1), (266, .iadd, 1), (267, .iload 4, 2), (269, .iastore, 1), (270, .iload 6, 2), (272, .ireturn, 1), (273, .aload_n 0, 1), (274, .iload_n 2, 1), (275, .invokevirtual 280, 3), (278, .ireturn, 1), (279, .aload_n 0, 1), (280, .iload_n 3, 1), (281, .invokevirtual 87, 3), (284, .ifCond .ne 7, 3), (287, .iconst 1, 1), (288, .goto 4, 3), (291, .iconst 0, 1), (292, .istore 6, 2), (294, .iload 6, 2), (296, .ifCond .eq 9, 3), (299, .aload_n 0, 1), (300, .iload_n 3, 1), (301, .invokevirtual 90, 3), (304, .pop, 1), (305, .iload 6, 2), (307, .ireturn, 1), (308, .aload_n 0, 1), (309, .invokevirtual 186, 3), (312, .pop, 1), (313, .iconst 1, 1), (314, .ireturn, 1)]
def inX12_reads : List (Nat × Instr × Nat) := [(0, .aload_n 0, 1), (1, .invokevirtual 283, 3), (4, .ifCond .ne 11, 3), (7, .bipush (-10), 2), (9, .aload_n 0, 1), (10, .getfield 254, 3), (13, .isub, 1), (14, .ireturn, 1), (15, .aload_n 0, 1), (16, .iconst 0, 1), (17, .sipush 840, 3), (20, .invokevirtual 38, 3), (23, .iconst 0, 1), (24, .istore_n 1, 1), (25, .iload_n 1, 1), (26, .aload_n 0, 1), (27, .getfield 274, 3), (30, .if_icmp .ge 31, 3), (33, .aload_n 0, 1), (34, .iload_n 1, 1), (35, .invokevirtual 286, 3), (38, .ifCond .ne 17, 3), (41, .aload_n 0, 1), (42, .sipush 840, 3), (45, .iconst 0, 1), (46, .invokevirtual 38, 3), (49, .sipush (-1000), 3), (52, .iload_n 1, 1), (53, .isub, 1), (54, .ireturn, 1), (55, .iinc 1 1, 3), (58, .goto (-33), 3), (61, .aload_n 0, 1), (62, .iconst 0, 1), (63, .sipush 980, 3), (66, .invokevirtual 38, 3), (69, .aload_n 0, 1), (70, .sipush 840, 3), (73, .iconst 0, 1), (74, .invokevirtual 38, 3), (77, .aload_n 0, 1), (78, .invokevirtual 73, 3), (81, .aload_n 0, 1), (82, .sipush 980, 3), (85, .iconst 0, 1), (86, .invokevirtual 38, 3), (89, .aload_n 0, 1), (90, .getfield 274, 3), (93, .ireturn, 1)]
def inX12_back : List (Nat × Instr × Nat) := [(0, .aload_n 0, 1), (1, .getfield 34, 3), (4, .ifCond .ne 10, 3), (7, .aload_n 0, 1), (8, .bipush (-3), 2), (10, .invokevirtual 69, 3), (13, .ireturn, 1), (14, .aload_n 0, 1), (15, .dup, 1), (16, .getfield 34, 3), (19, .iconst 1, 1), (20, .isub, 1), (21, .putfield 34, 3), (24, .aload_n 0, 1), (25, .sipush 140, 3), (28, .sipush 140, 3), (31, .aload_n 0, 1), (32, .getfield 34, 3), (35, .imul, 1), (36, .iadd, 1), (37, .iconst 0, 1), (38, .invokevirtual 38, 3), (41, .aload_n 0, 1), (42, .getfield 34, 3), (45, .ireturn, 1)]
def inX12_tells : List (Nat × Instr × Nat) := [(0, .iload_n 1, 1), (1, .tableswitch 74 0 6 #[43, 43, 43, 50, 55, 62, 69], 43), (44, .aload_n 0, 1), (45, .getfield 13, 3), (48, .iload_n 1, 1), (49, .iaload, 1), (50, .ireturn, 1), (51, .aload_n 0, 1), (52, .getfield 251, 3), (55, .ireturn, 1), (56, .aload_n 0, 1), (57, .getfield 7, 3), (60, .iconst 0, 1), (61, .iaload, 1), (62, .ireturn, 1), (63, .aload_n 0, 1), (64, .getfield 7, 3), (67, .iconst 1, 1), (68, .iaload, 1), (69, .ireturn, 1), (70, .aload_n 0, 1), (71, .getfield 34, 3), (74, .ireturn, 1), (75, .aload_n 0, 1), (76, .getfield 7, 3), (79, .sipush 130, 3), (82, .iload_n 1, 1), (83, .iadd, 1), (84, .bipush 7, 2), (86, .isub, 1), (87, .iaload, 1), (88, .ireturn, 1)]
def inX12_told : List (Nat × Instr × Nat) := [(0, .iload_n 1, 1), (1, .i2l, 1), (2, .lconst 0, 1), (3, .ldc2_w 289, 3), (6, .invokestatic 42, 3), (9, .ifCond .eq 11, 3), (12, .aload_n 0, 1), (13, .iload_n 1, 1), (14, .invokevirtual 291, 3), (17, .goto 9, 3), (20, .aload_n 0, 1), (21, .bipush (-2), 2), (23, .invokevirtual 69, 3), (26, .ireturn, 1)]
def inX12_digest : List (Nat × Instr × Nat) := [(0, .ldc2_w 294, 3), (3, .lstore_n 1, 1), (4, .iconst 0, 1), (5, .istore_n 3, 1), (6, .iload_n 3, 1), (7, .bipush 11, 2), (9, .if_icmp .ge 22, 3), (12, .ldc2_w 296, 3), (15, .lload_n 1, 1), (16, .lmul, 1), (17, .aload_n 0, 1), (18, .iload_n 3, 1), (19, .invokevirtual 291, 3), (22, .i2l, 1), (23, .ladd, 1), (24, .lstore_n 1, 1), (25, .iinc 3 1, 3), (28, .goto (-22), 3), (31, .iconst 0, 1), (32, .istore_n 3, 1), (33, .iload_n 3, 1), (34, .aload_n 0, 1), (35, .getfield 7, 3), (38, .iconst 0, 1), (39, .iaload, 1), (40, .if_icmp .ge 54, 3), (43, .iconst 0, 1), (44, .istore 4, 2), (46, .iload 4, 2), (48, .bipush 6, 2), (50, .if_icmp .ge 38, 3), (53, .ldc2_w 296, 3), (56, .lload_n 1, 1), (57, .lmul, 1), (58, .iload 4, 2), (60, .iconst 5, 1), (61, .if_icmp .ge 13, 3), (64, .aload_n 0, 1), (65, .iload_n 3, 1), (66, .iload 4, 2), (68, .invokevirtual 52, 3), (71, .goto 8, 3), (74, .aload_n 0, 1), (75, .iload_n 3, 1), (76, .invokevirtual 84, 3), (79, .i2l, 1), (80, .ladd, 1), (81, .lstore_n 1, 1), (82, .iinc 4 1, 3), (85, .goto (-39), 3), (88, .iinc 3 1, 3), (91, .goto (-58), 3), (94, .iconst 0, 1), (95, .istore_n 3, 1), (96, .iload_n 3, 1), (97, .aload_n 0, 1), (98, .getfield 7, 3), (101, .iconst 1, 1), (102, .iaload, 1), (103, .if_icmp .ge 40, 3), (106, .iconst 0, 1), (107, .istore 4, 2), (109, .iload 4, 2), (111, .bipush 7, 2), (113, .if_icmp .ge 24, 3), (116, .ldc2_w 296, 3), (119, .lload_n 1, 1), (120, .lmul, 1), (121, .aload_n 0, 1), (122, .iload_n 3, 1), (123, .iload 4, 2), (125, .invokevirtual 206, 3), (128, .i2l, 1), (129, .ladd, 1), (130, .lstore_n 1, 1), (131, .iinc 4 1, 3), (134, .goto (-25), 3), (137, .iinc 3 1, 3), (140, .goto (-44), 3), (143, .iconst 0, 1), (144, .istore_n 3, 1), (145, .iload_n 3, 1), (146, .bipush 7, 2), (148, .if_icmp .ge 22, 3), (151, .ldc2_w 296, 3), (154, .lload_n 1, 1), (155, .lmul, 1), (156, .aload_n 0, 1), (157, .iload_n 3, 1), (158, .invokevirtual 298, 3), (161, .i2l, 1), (162, .ladd, 1), (163, .lstore_n 1, 1), (164, .iinc 3 1, 3), (167, .goto (-22), 3), (170, .iconst 0, 1), (171, .istore_n 3, 1), (172, .iload_n 3, 1), (173, .bipush 6, 2), (175, .if_icmp .ge 27, 3), (178, .ldc2_w 296, 3), (181, .lload_n 1, 1), (182, .lmul, 1), (183, .aload_n 0, 1), (184, .getfield 7, 3), (187, .sipush 134, 3), (190, .iload_n 3, 1), (191, .iadd, 1), (192, .iaload, 1), (193, .i2l, 1), (194, .ladd, 1), (195, .lstore_n 1, 1), (196, .iinc 3 1, 3), (199, .goto (-27), 3), (202, .ldc2_w 296, 3), (205, .lload_n 1, 1), (206, .lmul, 1), (207, .aload_n 0, 1), (208, .invokevirtual 246, 3), (211, .i2l, 1), (212, .ladd, 1), (213, .lstore_n 1, 1), (214, .ldc2_w 296, 3), (217, .lload_n 1, 1), (218, .lmul, 1), (219, .aload_n 0, 1), (220, .iconst (-1), 1), (221, .invokevirtual 160, 3), (224, .i2l, 1), (225, .ladd, 1), (226, .lstore_n 1, 1), (227, .ldc2_w 296, 3), (230, .lload_n 1, 1), (231, .lmul, 1), (232, .aload_n 0, 1), (233, .invokevirtual 168, 3), (236, .i2l, 1), (237, .ladd, 1), (238, .lreturn, 1)]
def inJ6_bitCount_0f7a4 : List (Nat × Instr × Nat) := [(0, .iload_n 0, 1), (1, .iload_n 0, 1), (2, .iconst 1, 1), (3, .iushr, 1), (4, .ldc_w 265, 3), (7, .iand, 1), (8, .isub, 1), (9, .istore_n 0, 1), (10, .iload_n 0, 1), (11, .ldc_w 266, 3), (14, .iand, 1), (15, .iload_n 0, 1), (16, .iconst 2, 1), (17, .iushr, 1), (18, .ldc_w 266, 3), (21, .iand, 1), (22, .iadd, 1), (23, .istore_n 0, 1), (24, .iload_n 0, 1), (25, .iload_n 0, 1), (26, .iconst 4, 1), (27, .iushr, 1), (28, .iadd, 1), (29, .ldc_w 267, 3), (32, .iand, 1), (33, .istore_n 0, 1), (34, .iload_n 0, 1), (35, .iload_n 0, 1), (36, .bipush 8, 2), (38, .iushr, 1), (39, .iadd, 1), (40, .istore_n 0, 1), (41, .iload_n 0, 1), (42, .iload_n 0, 1), (43, .bipush 16, 2), (45, .iushr, 1), (46, .iadd, 1), (47, .istore_n 0, 1), (48, .iload_n 0, 1), (49, .bipush 63, 2), (51, .iand, 1), (52, .ireturn, 1)]
def inJ9_abs_0f7a4 : List (Nat × Instr × Nat) := [(0, .iload_n 0, 1), (1, .ifCond .ge 8, 3), (4, .iload_n 0, 1), (5, .ineg, 1), (6, .goto 4, 3), (9, .iload_n 0, 1), (10, .ireturn, 1)]
def inJ9_max_7cf53 : List (Nat × Instr × Nat) := [(0, .iload_n 0, 1), (1, .iload_n 1, 1), (2, .if_icmp .lt 7, 3), (5, .iload_n 0, 1), (6, .goto 4, 3), (9, .iload_n 1, 1), (10, .ireturn, 1)]
def inJ9_min_7cf53 : List (Nat × Instr × Nat) := [(0, .iload_n 0, 1), (1, .iload_n 1, 1), (2, .if_icmp .gt 7, 3), (5, .iload_n 0, 1), (6, .goto 4, 3), (9, .iload_n 1, 1), (10, .ireturn, 1)]
def inJ7_fill_53178 : List (Nat × Instr × Nat) := [(0, .iconst 0, 1), (1, .istore_n 2, 1), (2, .aload_n 0, 1), (3, .arraylength, 1), (4, .istore_n 3, 1), (5, .iload_n 2, 1), (6, .iload_n 3, 1), (7, .if_icmp .ge 13, 3), (10, .aload_n 0, 1), (11, .iload_n 2, 1), (12, .iload_n 1, 1), (13, .iastore, 1), (14, .iinc 2 1, 3), (17, .goto (-12), 3), (20, .return_, 1)]
end
section
def J (z : Int) : Int32 := Int32.ofInt z
def JL (z : Int) : Int64 := Int64.ofInt z
/-! ===== whole numbers under J ===== -/
def rg (a : Int) : Prop := -2147483648 ≤ a ∧ a < 2147483648
def rl (a : Int) : Prop := -9223372036854775808 ≤ a ∧ a < 9223372036854775808
def ia (a b : Int) : Int := ((a.toNat &&& b.toNat : Nat) : Int)
def io (a b : Int) : Int := ((a.toNat ||| b.toNat : Nat) : Int)
def ix (a b : Int) : Int := ((a.toNat ^^^ b.toNat : Nat) : Int)
theorem J_toInt {a : Int} (h : rg a) : (J a).toInt = a := Int32.toInt_ofInt_of_le (by have := h.1; omega) (by have := h.2; omega)
theorem JL_toInt {a : Int} (h : rl a) : (JL a).toInt = a := Int64.toInt_ofInt_of_le (by have := h.1; omega) (by have := h.2; omega)
theorem J_of (x : Int32) : x = J x.toInt := (Int32.ofInt_toInt x).symm
theorem J_rg (x : Int32) : rg x.toInt := ⟨by have := x.le_toInt; omega, by have := x.toInt_lt; omega⟩
theorem J_add (a b : Int) : J a + J b = J (a + b) := (Int32.ofInt_add a b).symm
theorem J_sub (a b : Int) : J a - J b = J (a - b) := (Int32.ofInt_sub a b).symm
theorem J_mul (a b : Int) : J a * J b = J (a * b) := (Int32.ofInt_mul a b).symm
theorem J_neg (a : Int) : - J a = J (-a) := Int32.neg_ofInt
theorem JL_add (a b : Int) : JL a + JL b = JL (a + b) := (Int64.ofInt_add a b).symm
theorem JL_mul (a b : Int) : JL a * JL b = JL (a * b) := (Int64.ofInt_mul a b).symm
theorem JL_sub (a b : Int) : JL a - JL b = JL (a - b) := (Int64.ofInt_sub a b).symm
theorem J_lt {a b : Int} (ha : rg a) (hb : rg b) : J a < J b ↔ a < b := by rw [Int32.lt_iff_toInt_lt, J_toInt ha, J_toInt hb]
theorem J_le {a b : Int} (ha : rg a) (hb : rg b) : J a ≤ J b ↔ a ≤ b := by rw [Int32.le_iff_toInt_le, J_toInt ha, J_toInt hb]
theorem J_eq {a b : Int} (ha : rg a) (hb : rg b) : J a = J b ↔ a = b := ⟨fun h => by rw [← J_toInt ha, ← J_toInt hb, h], fun h => by rw [h]⟩
theorem JL_lt {a b : Int} (ha : rl a) (hb : rl b) : JL a < JL b ↔ a < b := by rw [Int64.lt_iff_toInt_lt, JL_toInt ha, JL_toInt hb]
theorem JL_eq {a b : Int} (ha : rl a) (hb : rl b) : JL a = JL b ↔ a = b := ⟨fun h => by rw [← JL_toInt ha, ← JL_toInt hb, h], fun h => by rw [h]⟩
theorem J_0 : J 0 = 0 := rfl
theorem rg_0 : rg 0 := ⟨by decide, by decide⟩
theorem J_ne0 {b : Int} (hb : rg b) (h : b ≠ 0) : ¬ J b = 0 := fun e => h ((J_eq hb rg_0).mp e)
theorem JL_ne0 {b : Int} (hb : rl b) (h : b ≠ 0) : ¬ JL b = 0 := fun e => h ((JL_eq hb ⟨by decide, by decide⟩).mp (e.trans rfl))
theorem J_div {a b : Int} (ha : rg a) (hb : rg b) (h0 : 0 ≤ a) (h1 : 0 < b) : J a / J b = J (a / b) := by
  apply Int32.toInt.inj
  have hle : a / b ≤ a := Int.ediv_le_self b h0
  have hge : 0 ≤ a / b := Int.ediv_nonneg h0 (by omega)
  rw [Int32.toInt_div_of_ne_right, J_toInt ha, J_toInt hb, J_toInt ⟨by omega, by have := ha.2; omega⟩, Int.tdiv_eq_ediv_of_nonneg h0]
  intro e
  have : J b = J (-1) := e.trans rfl
  have := (J_eq hb ⟨by decide, by decide⟩).mp this
  omega
theorem J_rem {a b : Int} (ha : rg a) (hb : rg b) (h0 : 0 ≤ a) (h1 : 0 < b) : J a - J a / J b * J b = J (a % b) := by
  rw [J_div ha hb h0 h1, J_mul, J_sub]
  congr 1
  have := Int.mul_ediv_add_emod a b
  rw [Int.mul_comm] at this
  omega
theorem JL_div {a b : Int} (ha : rl a) (hb : rl b) (h0 : 0 ≤ a) (h1 : 0 < b) : JL a / JL b = JL (a / b) := by
  apply Int64.toInt.inj
  have hle : a / b ≤ a := Int.ediv_le_self b h0
  have hge : 0 ≤ a / b := Int.ediv_nonneg h0 (by omega)
  rw [Int64.toInt_div_of_ne_right, JL_toInt ha, JL_toInt hb, JL_toInt ⟨by omega, by have := ha.2; omega⟩, Int.tdiv_eq_ediv_of_nonneg h0]
  intro e
  have : JL b = JL (-1) := e.trans rfl
  have := (JL_eq hb ⟨by decide, by decide⟩).mp this
  omega
theorem JL_rem {a b : Int} (ha : rl a) (hb : rl b) (h0 : 0 ≤ a) (h1 : 0 < b) : JL a - JL a / JL b * JL b = JL (a % b) := by
  rw [JL_div ha hb h0 h1, JL_mul, JL_sub]
  congr 1
  have := Int.mul_ediv_add_emod a b
  rw [Int.mul_comm] at this
  omega
theorem J_l {a : Int} (ha : rg a) : (J a).toInt64 = JL a := by
  apply Int64.toInt.inj
  rw [Int32.toInt_toInt64, J_toInt ha, JL_toInt ⟨by have := ha.1; omega, by have := ha.2; omega⟩]
theorem JL_i (a : Int) : (JL a).toInt32 = J a := Int64.toInt32_ofInt
theorem J_nat (n : Nat) : J (n : Int) = nI n := Int32.ofInt_eq_ofNat
theorem J_nn {a : Int} (h : 0 ≤ a) : J a = nI a.toNat := by rw [← J_nat, Int.toNat_of_nonneg h]
theorem nI_bv (n : Nat) : (nI n).toBitVec = BitVec.ofNat 32 n := rfl
theorem J_and {a b : Int} (ha : 0 ≤ a) (hb : 0 ≤ b) : J a &&& J b = J (ia a b) := by
  rw [J_nn ha, J_nn hb, ia, J_nat]
  apply Int32.toBitVec.inj
  rw [Int32.toBitVec_and, nI_bv, nI_bv, nI_bv]
  apply BitVec.eq_of_getLsbD_eq
  intro i hi
  simp [BitVec.getLsbD_ofNat, hi]
theorem J_or {a b : Int} (ha : 0 ≤ a) (hb : 0 ≤ b) : J a ||| J b = J (io a b) := by
  rw [J_nn ha, J_nn hb, io, J_nat]
  apply Int32.toBitVec.inj
  rw [Int32.toBitVec_or, nI_bv, nI_bv, nI_bv]
  apply BitVec.eq_of_getLsbD_eq
  intro i hi
  simp [BitVec.getLsbD_ofNat, hi]
theorem J_xor {a b : Int} (ha : 0 ≤ a) (hb : 0 ≤ b) : J a ^^^ J b = J (ix a b) := by
  rw [J_nn ha, J_nn hb, ix, J_nat]
  apply Int32.toBitVec.inj
  rw [Int32.toBitVec_xor, nI_bv, nI_bv, nI_bv]
  apply BitVec.eq_of_getLsbD_eq
  intro i hi
  simp [BitVec.getLsbD_ofNat, hi]
theorem J_sh : ∀ k : Nat, k < 32 → ((nI k &&& 31).toBitVec.smod 32).toNat = k := by decide +kernel
theorem J_shl {a k : Int} (ha : 0 ≤ a) (hk : 0 ≤ k ∧ k < 32) : J a <<< (J k &&& 31) = J (a * 2 ^ k.toNat) := by
  have e1 : a * 2 ^ k.toNat = ((a.toNat * 2 ^ k.toNat : Nat) : Int) := by
    rw [Int.natCast_mul, Int.toNat_of_nonneg ha]; simp
  rw [e1, J_nat, J_nn hk.1, J_nn ha]
  apply Int32.toBitVec.inj
  apply BitVec.eq_of_toNat_eq
  rw [pk_shl _ _ k.toNat (J_sh _ (by omega)), nI_bv, nI_bv]
  simp [Nat.mod_mul_mod]
theorem J_shr {a k : Int} (ha : 0 ≤ a ∧ a < 2147483648) (hk : 0 ≤ k ∧ k < 32) : J a >>> (J k &&& 31) = J (a / 2 ^ k.toNat) := by
  have e1 : a / 2 ^ k.toNat = ((a.toNat / 2 ^ k.toNat : Nat) : Int) := by
    rw [Int.natCast_ediv, Int.toNat_of_nonneg ha.1]; simp
  rw [e1, J_nat, J_nn hk.1, J_nn ha.1]
  exact pk_shrN (by omega) _ _ (J_sh _ (by omega))
theorem lg_J {a b : Int} (ha : rl a) (hb : rl b) : lg_cmp (JL a) (JL b) = J (if b < a then 1 else if a = b then 0 else -1) := by
  unfold lg_cmp
  by_cases h1 : b < a
  · rw [if_pos ((JL_lt hb ha).mpr h1), if_pos h1]; rfl
  · by_cases h2 : a = b
    · subst h2; simp; rfl
    · rw [if_neg (fun h => h1 ((JL_lt hb ha).mp h)), if_neg (fun h => h2 ((JL_eq ha hb).mp h)), if_neg h1, if_neg h2]; rfl
theorem J_in {z : Int} {n : Nat} (h0 : 0 ≤ z) (h1 : z < n) (hn : n < 2147483648) : vp_in (J z) n := by
  rw [J_nn h0]; exact vp_in_nI (by omega) (by omega)
theorem J_cl {z : Int} (h0 : 0 ≤ z) (h1 : z < 2147483648) : (J z).toNatClampNeg = z.toNat := by
  rw [J_nn h0]; exact nI_clamp (by omega)
end
section
/-! ===== ints of the machine as whole numbers ===== -/
abbrev GG : Type := Launch × va_G × (ClassId × ClassId × ClassId) × (Nat → Nat)
abbrev MM : Type := MethodName × ByteArray × Nat × Option FieldType × List (Nat × Instr × Nat)
def gT (G : GG) : List (ClassId × FieldType) := [(G.2.2.1.1, .int), (G.2.2.1.2.1, .boolean), (G.2.2.1.2.2, .object RX9)]
/-! ===== the words of the tables, at any later state ===== -/
def okw : Cond → Bool
  | .fieldLinkNest .. => true
  | .methodLinkNest .. => true
  | .arrayOver (.object _) => true
  | w => goodWord w
def TabOk (U : State) : Prop := ∀ w ∈ lw_tbl, okw w = true → w.before #[] U = true
theorem TabOk.moved {s U : State} (hW : s.WarmedH U.vm) (h : TabOk s) : TabOk U := by
  intro w hm ho
  have hb := h w hm ho
  cases w with
  | fieldLinkNest a i b n d h => exact va_Nw.warmF hW hb
  | methodLinkNest a i x h => exact va_Nw.warmM hW hb
  | arrayOver ty =>
    cases ty with
    | object C => exact va_AO.moved hW.alike hb
    | _ => cases ho
  | _ => exact word_at hW (good_of_word ho) hb
theorem TabOk.use {s : State} (h : TabOk s) {w : Cond} (hm : w ∈ lw_tbl) (ho : okw w = true) (ht : w.onTables = true) {args : Array Value} : w.before args s = true := va_tabs ht rfl (h w hm ho)
theorem TabOk.calling {U : State} (h : TabOk U) (g : JFrame) (mk : MethodId) (a : Array Value) : TabOk (U.calling g mk a) := TabOk.moved (s := U) (State.WarmedH.refl U) h
/-! ===== locals: a list of what the slots hold ===== -/
def lvl : Nat → List (Option Value) → List (Nat × Value)
  | _, [] => []
  | i, none :: t => lvl (i + 1) t
  | i, some v :: t => (i, v) :: lvl (i + 1) t
theorem lvl_mem : ∀ (L : List (Option Value)) (k : Nat) (q : Nat × Value), q ∈ lvl k L ↔ ∃ j : Nat, q.1 = k + j ∧ L[j]? = some (some q.2)
  | [], k, q => by simp [lvl]
  | none :: t, k, q => by
    rw [lvl, lvl_mem t (k + 1) q]
    constructor
    · rintro ⟨j, h1, h2⟩; exact ⟨j + 1, by omega, by simpa using h2⟩
    · rintro ⟨j, h1, h2⟩
      cases j with
      | zero => simp at h2
      | succ j => exact ⟨j, by omega, by simpa using h2⟩
  | some v :: t, k, q => by
    rw [lvl, List.mem_cons, lvl_mem t (k + 1) q]
    constructor
    · rintro (h | ⟨j, h1, h2⟩)
      · exact ⟨0, by rw [h]; rfl, by rw [h]; rfl⟩
      · exact ⟨j + 1, by omega, by simpa using h2⟩
    · rintro ⟨j, h1, h2⟩
      cases j with
      | zero =>
        left
        have h3 : v = q.2 := by simpa using h2
        exact Prod.ext (by simpa using h1) h3.symm
      | succ j => exact Or.inr ⟨j, by omega, by simpa using h2⟩
def lvh (ls : Array Slot) (nL : Nat) (L : List (Option Value)) : Prop := lv_has ls nL (lvl 0 L)
theorem lvh.at {ls : Array Slot} {nL : Nat} {L : List (Option Value)} (h : lvh ls nL L) {i : Nat} {v : Value} (hi : L[i]? = some (some v)) : ls[i]? = some (.val v) :=
  h.2.2 (i, v) ((lvl_mem L 0 (i, v)).mpr ⟨i, by simp, hi⟩)
theorem lvh.of {ls : Array Slot} {nL : Nat} {l : List (Nat × Value)} {L : List (Option Value)} (h : lv_has ls nL l) (hm : ∀ (i : Nat) (v : Value), L[i]? = some (some v) → (i, v) ∈ l) : lvh ls nL L :=
  ⟨h.1, h.2.1, fun q hq => by
    obtain ⟨j, h1, h2⟩ := (lvl_mem L 0 q).mp hq
    have hj : q.1 = j := by omega
    exact h.2.2 q (by have := hm j q.2 h2; rwa [← hj] at this)⟩
/-- fewer of them -/
def lvle : List (Option Value) → List (Option Value) → Prop
  | _, [] => True
  | [], b :: bs => b = none ∧ lvle [] bs
  | a :: as, b :: bs => (b = none ∨ b = a) ∧ lvle as bs
theorem lvle_at : ∀ (L K : List (Option Value)), lvle L K → ∀ (i : Nat) (v : Value), K[i]? = some (some v) → L[i]? = some (some v)
  | _, [], _, i, v, h => by simp at h
  | [], b :: bs, hl, i, v, h => by
    cases i with
    | zero => simp at h; rw [hl.1] at h; cases h
    | succ i => simpa using lvle_at [] bs hl.2 i v (by simpa using h)
  | a :: as, b :: bs, hl, i, v, h => by
    cases i with
    | zero =>
      simp at h
      rcases hl.1 with h1 | h1
      · rw [h1] at h; cases h
      · simp [← h1, h]
    | succ i => simpa using lvle_at as bs hl.2 i v (by simpa using h)
theorem lvh.le {ls : Array Slot} {nL : Nat} {L K : List (Option Value)} (h : lvh ls nL L) (hl : lvle L K) : lvh ls nL K :=
  lvh.of h (fun i v hi => (lvl_mem L 0 (i, v)).mpr ⟨i, by simp, lvle_at L K hl i v hi⟩)
def catok (L : List (Option Value)) : Nat → Bool
  | 0 => true
  | j + 1 => match L[j]? with
    | some (some v) => v.category == 1
    | _ => true
theorem lvl_store1 {L : List (Option Value)} {i : Nat} {v : Value} (hc : catok L i = true) : ∀ (j : Nat) (w : Value), (L.set i (some v))[j]? = some (some w) → (j, w) ∈ ((i, v) :: (lvl 0 L).filter (fun q => !(q.1 == i) && !(q.1 + 1 == i && q.2.category == 2))) := by
  intro j w h
  by_cases hj : j = i
  · subst hj
    by_cases hl : j < L.length
    · rw [List.getElem?_set_self hl] at h
      have : v = w := by simpa using h
      rw [this]; exact List.mem_cons_self
    · rw [List.getElem?_eq_none (by simpa using Nat.not_lt.mp hl)] at h; cases h
  · rw [List.getElem?_set_ne (Ne.symm hj)] at h
    refine List.mem_cons_of_mem _ (List.mem_filter.mpr ⟨(lvl_mem L 0 (j, w)).mpr ⟨j, by simp, h⟩, ?_⟩)
    by_cases h1 : j + 1 = i
    · subst h1
      simp only [catok, h] at hc
      have h2 : w.category = 1 := by simpa using hc
      simp [h2]
    · simp [hj, h1]
theorem lvl_store2 {L : List (Option Value)} {i : Nat} {v : Value} (hc : catok L i = true) : ∀ (j : Nat) (w : Value), ((L.set i (some v)).set (i + 1) none)[j]? = some (some w) → (j, w) ∈ ((i, v) :: (lvl 0 L).filter (fun q => !(q.1 == i) && (!(q.1 == i + 1) && !(q.1 + 1 == i && q.2.category == 2)))) := by
  intro j w h
  by_cases hj1 : j = i + 1
  · subst hj1
    by_cases hl : i + 1 < (L.set i (some v)).length
    · rw [List.getElem?_set_self hl] at h; cases h
    · rw [List.getElem?_eq_none (by simpa using Nat.not_lt.mp hl)] at h; cases h
  · rw [List.getElem?_set_ne (Ne.symm hj1)] at h
    by_cases hj : j = i
    · subst hj
      by_cases hl : j < L.length
      · rw [List.getElem?_set_self hl] at h
        have : v = w := by simpa using h
        rw [this]; exact List.mem_cons_self
      · rw [List.getElem?_eq_none (by simpa using Nat.not_lt.mp hl)] at h; cases h
    · rw [List.getElem?_set_ne (Ne.symm hj)] at h
      refine List.mem_cons_of_mem _ (List.mem_filter.mpr ⟨(lvl_mem L 0 (j, w)).mpr ⟨j, by simp, h⟩, ?_⟩)
      by_cases h1 : j + 1 = i
      · subst h1
        simp only [catok, h] at hc
        have h2 : w.category = 1 := by simpa using hc
        simp [h2]
        omega
      · simp [hj, hj1, h1]
def entA : List Value → List (Option Value)
  | [] => []
  | v :: t => if v.category = 2 then some v :: none :: entA t else some v :: entA t
def entL (n : Nat) (av : List Value) : List (Option Value) := entA av ++ List.replicate (n - (entA av).length) none
theorem entA_mem : ∀ (av : List Value) (k i : Nat) (v : Value), (entA av)[i]? = some (some v) → (k + i, v) ∈ lv_args k av
  | [], k, i, v, h => by simp [entA] at h
  | w :: t, k, i, v, h => by
    by_cases hc : w.category = 2
    · rw [entA, if_pos hc] at h
      rw [lv_args, if_pos hc]
      match i, h with
      | 0, h =>
        have : w = v := by simpa using h
        rw [this]; exact List.mem_cons_self
      | 1, h => simp at h
      | i + 2, h =>
        have := entA_mem t (k + 2) i v (by simpa using h)
        rw [show k + (i + 2) = k + 2 + i by omega]
        exact List.mem_cons_of_mem _ this
    · rw [entA, if_neg hc] at h
      rw [lv_args, if_neg hc]
      match i, h with
      | 0, h =>
        have : w = v := by simpa using h
        rw [this]; exact List.mem_cons_self
      | i + 1, h =>
        have := entA_mem t (k + 1) i v (by simpa using h)
        rw [show k + (i + 1) = k + 1 + i by omega]
        exact List.mem_cons_of_mem _ this
theorem entL_mem {n : Nat} {av : List Value} {i : Nat} {v : Value} (h : (entL n av)[i]? = some (some v)) : (i, v) ∈ lv_args 0 av := by
  unfold entL at h
  by_cases hl : i < (entA av).length
  · rw [List.getElem?_append_left hl] at h
    simpa using entA_mem av 0 i v h
  · rw [List.getElem?_append_right (Nat.not_lt.mp hl)] at h
    have := List.mem_of_getElem? h
    simp at this
/-! ===== the judgement ===== -/
abbrev XX : Type := State → Array Value → (Nat → Prop) → Prop
abbrev FF : Type := List Frame → Array Value → State → (Nat → Prop) → State → Prop
def XT : XX := fun _ _ _ => True
def CX (G : GG) (d mc ms : Nat) (M : MM) (X : XX) (p : Program) (R : Room) (s : State) (m : MethodId) (args : Array Value) (meth : Method) (c : Code) (A : Nat → Prop) : Prop :=
  (p.tables.exec = Jvm.exec ∧ c.code = M.2.1 ∧ meth.sig.returnType = M.2.2.2.1 ∧ c.maxLocals = M.2.2.1 ∧ s.vm.findClass M.1.cls = some m.cls) ∧ (meth.locks = false ∧ meth.name = M.1.name ∧ TabOk s ∧ va_K G.2.1 classes (gT G) s ∧ ∀ q, s.heap.size ≤ q → A q) ∧ (d ≤ R.frames ∧ 40 * d ≤ R.locals ∧ R.cells = mc ∧ R.slots = ms) ∧ (∀ q ∈ M.2.2.2.2, decode M.2.1 q.1 = .ok q.2) ∧ X s args A
def AW (G : GG) (d mc ms : Nat) (M : MM) (X : XX) (F : FF) (k n pc : Nat) (L : List (Option Value)) (st : List Value) (ws : va_W) : Prop :=
  ∀ (p : Program) (e : Env) (R : Room) (s : State) (m : MethodId) (args : Array Value) (below : List Frame) (meth : Method) (c : Code) (H : Heap) (locs : List Loc) (A : Nat → Prop) (ls : Array Slot),
    CX G d mc ms M X p R s m args meth c A → va_P G.2.1 classes ws H → va_D A ws → va_S A s.heap H locs → lvh ls M.2.2.1 L → W p G.1 e R s m args below meth c H locs k n (F below args s A) (F0 m pc ls st)
def AQA (G : GG) (A : Nat → Prop) (Q : Option Value → va_W → Prop) : Array Value → State → Outcome → State → Prop := fun _ st oc t =>
  (∃ (r : Option Value) (ws : va_W), oc = .returned r ∧ Q r ws ∧ va_P G.2.1 classes ws t.heap ∧ va_D A ws) ∧ va_F A st t
def mF (G : GG) (mc ms : Nat) (Q : Option Value → va_W → Prop) : FF := fun below args s A => MQ below (AQA G A Q) args s mc ms A
def rmD (d mc ms : Nat) : Room := { frames := d, cells := mc, slots := ms, locals := 40 * d }
def AP (G : GG) (av : List Value) (ws : va_W) (sz : Nat) : Array Value → State → Prop := va_Pc av (fun U => U.heap.size = sz ∧ TabOk U ∧ va_P G.2.1 classes ws U.heap ∧ va_K G.2.1 classes (gT G) U ∧ va_D (fun _ => True) ws)
def AM (G : GG) (d mc ms : Nat) (M : MM) (av : List Value) (ws : va_W) (Q : Option Value → va_W → Prop) : Prop :=
  ∀ d' : Nat, d ≤ d' → ∀ sz : Nat, Met G.1 M.1 [.code M.1 M.2.1 M.2.2.1 M.2.2.2.1] (rmD d' mc ms) (AP G av ws sz) (AQA G (va_A ws sz) Q) mc ms (va_A ws sz)
theorem AP.blind (G : GG) (av : List Value) (ws : va_W) (sz : Nat) : FrameBlind (AP G av ws sz) := by
  intro a U g mk h
  obtain ⟨h1, h2, h3, h4, h5, h6⟩ := h
  exact ⟨h1, h2, h3.calling g mk a, h4, va_K.moved (u := U) (U := U.calling g mk a) (Vm.Alike.refl U.vm) h5, h6⟩
theorem AM.mono {G : GG} {d d2 mc ms : Nat} {M : MM} {av : List Value} {ws : va_W} {Q : Option Value → va_W → Prop} (h : AM G d mc ms M av ws Q) (hd : d ≤ d2) : AM G d2 mc ms M av ws Q := fun d' h1 sz => h d' (Nat.le_trans hd h1) sz
theorem AM.ofAW {G : GG} {d mc ms : Nat} {M : MM} {av : List Value} {ws : va_W} {Q : Option Value → va_W → Prop} (L : List (Option Value)) (hL : entL M.2.2.1 av = L) (hn : (lg_sl av).length ≤ M.2.2.1) (hy : plainName M.1.cls = true) (hdec : ∀ q ∈ M.2.2.2.2, decode M.2.1 q.1 = .ok q.2)
    (h : AW G d mc ms M XT (mF G mc ms Q) 0 0 0 L [] ws) : AM G d mc ms M av ws Q := by
  subst hL
  intro d' hd sz
  refine Met.ofW (cc := M.2.1) (maxL := M.2.2.1) (ret := M.2.2.2.1) hy rfl ?_
  intro p e s m args below meth c s₁ B hml hv
  obtain ⟨rfl, hsz, hT, hP, hK, hD0⟩ := hv
  subst hsz
  have hD := hD0.self (sz := s.heap.size)
  have hl := lv_entry av (n := M.2.2.1) hn
  rw [lg_entry_eq]
  refine h p e _ s m _ below meth c s.heap [] (va_A ws s.heap.size) _ ⟨⟨B.exec, B.bytes, B.returns, hml, findClass_of_methodNamed B.named⟩, ⟨B.notSynchronized, (name_of_methodNamed B.named B.method).1, hT, hK, fun q hq => Or.inr hq⟩, ⟨hd, Nat.mul_le_mul_left 40 hd, rfl, rfl⟩, hdec, trivial⟩ hP hD va_S.rf ?_
  exact lvh.of hl (fun i v hi => entL_mem hi)
section AWR
variable {G : GG} {d mc ms : Nat} {M : MM} {X : XX} {F : FF} {k n pc pc' i : Nat} {L : List (Option Value)} {st : List Value} {ws : va_W}
theorem CX.dec {p : Program} {R : Room} {s : State} {m : MethodId} {args : Array Value} {meth : Method} {c : Code} {A : Nat → Prop} (h : CX G d mc ms M X p R s m args meth c A) {I : Instr} {len : Nat} (hi : M.2.2.2.2[i]? = some (pc, I, len)) : decode M.2.1 pc = .ok (I, len) :=
  h.2.2.2.1 (pc, I, len) (List.mem_of_getElem? hi)
/-- one instruction that reads and writes the stack alone -/
theorem AW.one {I : Instr} {len : Nat} {st' : List Value} (hi : M.2.2.2.2[i]? = some (pc, I, len))
    (h : ∀ (p : Program) (e : Env) (R : Room) (s : State) (m : MethodId) (args : Array Value) (below : List Frame) (meth : Method) (c : Code) (H : Heap) (locs : List Loc) (A : Nat → Prop) (ls : Array Slot), p.tables.exec = Jvm.exec → c.code = M.2.1 → decode M.2.1 pc = .ok (I, len) → CX G d mc ms M X p R s m args meth c A → lvh ls M.2.2.1 L → W p G.1 e R s m args below meth c H locs k n (F below args s A) (F0 m pc' ls st') → W p G.1 e R s m args below meth c H locs k n (F below args s A) (F0 m pc ls st))
    (kk : AW G d mc ms M X F k n pc' L st' ws) : AW G d mc ms M X F k n pc L st ws :=
  fun p e R s m args below meth c H locs A ls hc hP hD hS hl => h p e R s m args below meth c H locs A ls hc.1.1 hc.1.2.1 (hc.dec hi) hc hl (kk p e R s m args below meth c H locs A ls hc hP hD hS hl)
theorem AW.le {K : List (Option Value)} (hl : lvle L K) (kk : AW G d mc ms M X F k n pc K st ws) : AW G d mc ms M X F k n pc L st ws :=
  fun p e R s m args below meth c H locs A ls hc hP hD hS h => kk p e R s m args below meth c H locs A ls hc hP hD hS (h.le hl)
end AWR
end
section
section AWS
variable {G : GG} {d mc ms : Nat} {M : MM} {X : XX} {F : FF} {k n pc pc' i : Nat} {L : List (Option Value)} {st : List Value} {ws : va_W}
/-- what is on a stack behind a call -/
def psh : Option Value → List Value → List Value
  | none, r => r
  | some v, r => v :: r
theorem psh_eq (r : Option Value) (st : List Value) : r.toList ++ st = psh r st := by cases r <;> rfl

theorem x_iadd {a b : Int} (hi : M.2.2.2.2[i]? = some (pc, .iadd, 1)) (hp : pc + 1 = pc')
    (kk : AW G d mc ms M X F k n pc' L (.int (J (a + b)) :: st) ws) : AW G d mc ms M X F k n pc L (.int (J b) :: .int (J a) :: st) ws := by
  subst hp
  exact AW.one hi (fun p e R s m args below meth c H locs A ls hx hb hd hc hl h => lv_iadd hx hb hd (by rw [J_add]; exact h)) kk

theorem x_isub {a b : Int} (hi : M.2.2.2.2[i]? = some (pc, .isub, 1)) (hp : pc + 1 = pc')
    (kk : AW G d mc ms M X F k n pc' L (.int (J (a - b)) :: st) ws) : AW G d mc ms M X F k n pc L (.int (J b) :: .int (J a) :: st) ws := by
  subst hp
  exact AW.one hi (fun p e R s m args below meth c H locs A ls hx hb hd hc hl h => lv_isub hx hb hd (by rw [J_sub]; exact h)) kk

theorem x_imul {a b : Int} (hi : M.2.2.2.2[i]? = some (pc, .imul, 1)) (hp : pc + 1 = pc')
    (kk : AW G d mc ms M X F k n pc' L (.int (J (a * b)) :: st) ws) : AW G d mc ms M X F k n pc L (.int (J b) :: .int (J a) :: st) ws := by
  subst hp
  exact AW.one hi (fun p e R s m args below meth c H locs A ls hx hb hd hc hl h => lv_imul hx hb hd (by rw [J_mul]; exact h)) kk

theorem x_idiv {a b : Int} (hi : M.2.2.2.2[i]? = some (pc, .idiv, 1)) (hp : pc + 1 = pc') (ha : rg a) (hb0 : rg b) (h0 : 0 ≤ a) (h1 : 0 < b)
    (kk : AW G d mc ms M X F k n pc' L (.int (J (a / b)) :: st) ws) : AW G d mc ms M X F k n pc L (.int (J b) :: .int (J a) :: st) ws := by
  subst hp
  exact AW.one hi (fun p e R s m args below meth c H locs A ls hx hb hd hc hl h => lv_idiv hx hb hd (J_ne0 hb0 (by omega)) (by rw [J_div ha hb0 h0 h1]; exact h)) kk

theorem x_irem {a b : Int} (hi : M.2.2.2.2[i]? = some (pc, .irem, 1)) (hp : pc + 1 = pc') (ha : rg a) (hb0 : rg b) (h0 : 0 ≤ a) (h1 : 0 < b)
    (kk : AW G d mc ms M X F k n pc' L (.int (J (a % b)) :: st) ws) : AW G d mc ms M X F k n pc L (.int (J b) :: .int (J a) :: st) ws := by
  subst hp
  exact AW.one hi (fun p e R s m args below meth c H locs A ls hx hb hd hc hl h => lv_irem hx hb hd (J_ne0 hb0 (by omega)) (by rw [J_rem ha hb0 h0 h1]; exact h)) kk

theorem x_iand {a b : Int} (hi : M.2.2.2.2[i]? = some (pc, .iand, 1)) (hp : pc + 1 = pc') (ha : 0 ≤ a) (hb0 : 0 ≤ b)
    (kk : AW G d mc ms M X F k n pc' L (.int (J (ia a b)) :: st) ws) : AW G d mc ms M X F k n pc L (.int (J b) :: .int (J a) :: st) ws := by
  subst hp
  exact AW.one hi (fun p e R s m args below meth c H locs A ls hx hb hd hc hl h => lv_iand hx hb hd (by rw [J_and ha hb0]; exact h)) kk

theorem x_ior {a b : Int} (hi : M.2.2.2.2[i]? = some (pc, .ior, 1)) (hp : pc + 1 = pc') (ha : 0 ≤ a) (hb0 : 0 ≤ b)
    (kk : AW G d mc ms M X F k n pc' L (.int (J (io a b)) :: st) ws) : AW G d mc ms M X F k n pc L (.int (J b) :: .int (J a) :: st) ws := by
  subst hp
  exact AW.one hi (fun p e R s m args below meth c H locs A ls hx hb hd hc hl h => lv_ior hx hb hd (by rw [J_or ha hb0]; exact h)) kk

theorem x_ixor {a b : Int} (hi : M.2.2.2.2[i]? = some (pc, .ixor, 1)) (hp : pc + 1 = pc') (ha : 0 ≤ a) (hb0 : 0 ≤ b)
    (kk : AW G d mc ms M X F k n pc' L (.int (J (ix a b)) :: st) ws) : AW G d mc ms M X F k n pc L (.int (J b) :: .int (J a) :: st) ws := by
  subst hp
  exact AW.one hi (fun p e R s m args below meth c H locs A ls hx hb hd hc hl h => lv_ixor hx hb hd (by rw [J_xor ha hb0]; exact h)) kk

theorem x_ishl {a b : Int} (hi : M.2.2.2.2[i]? = some (pc, .ishl, 1)) (hp : pc + 1 = pc') (ha : 0 ≤ a) (hb0 : 0 ≤ b ∧ b < 32)
    (kk : AW G d mc ms M X F k n pc' L (.int (J (a * 2 ^ b.toNat)) :: st) ws) : AW G d mc ms M X F k n pc L (.int (J b) :: .int (J a) :: st) ws := by
  subst hp
  exact AW.one hi (fun p e R s m args below meth c H locs A ls hx hb hd hc hl h => lv_ishl hx hb hd (by rw [J_shl ha hb0]; exact h)) kk

theorem x_ishr {a b : Int} (hi : M.2.2.2.2[i]? = some (pc, .ishr, 1)) (hp : pc + 1 = pc') (ha : 0 ≤ a ∧ a < 2147483648) (hb0 : 0 ≤ b ∧ b < 32)
    (kk : AW G d mc ms M X F k n pc' L (.int (J (a / 2 ^ b.toNat)) :: st) ws) : AW G d mc ms M X F k n pc L (.int (J b) :: .int (J a) :: st) ws := by
  subst hp
  exact AW.one hi (fun p e R s m args below meth c H locs A ls hx hb hd hc hl h => lv_ishr hx hb hd (by rw [J_shr ha hb0]; exact h)) kk

theorem x_ladd {a b : Int} (hi : M.2.2.2.2[i]? = some (pc, .ladd, 1)) (hp : pc + 1 = pc')
    (kk : AW G d mc ms M X F k n pc' L (.long (JL (a + b)) :: st) ws) : AW G d mc ms M X F k n pc L (.long (JL b) :: .long (JL a) :: st) ws := by
  subst hp
  exact AW.one hi (fun p e R s m args below meth c H locs A ls hx hb hd hc hl h => lv_ladd hx hb hd (by rw [JL_add]; exact h)) kk

theorem x_lmul {a b : Int} (hi : M.2.2.2.2[i]? = some (pc, .lmul, 1)) (hp : pc + 1 = pc')
    (kk : AW G d mc ms M X F k n pc' L (.long (JL (a * b)) :: st) ws) : AW G d mc ms M X F k n pc L (.long (JL b) :: .long (JL a) :: st) ws := by
  subst hp
  exact AW.one hi (fun p e R s m args below meth c H locs A ls hx hb hd hc hl h => lv_lmul hx hb hd (by rw [JL_mul]; exact h)) kk

theorem x_ldiv {a b : Int} (hi : M.2.2.2.2[i]? = some (pc, .ldiv, 1)) (hp : pc + 1 = pc') (ha : rl a) (hb0 : rl b) (h0 : 0 ≤ a) (h1 : 0 < b)
    (kk : AW G d mc ms M X F k n pc' L (.long (JL (a / b)) :: st) ws) : AW G d mc ms M X F k n pc L (.long (JL b) :: .long (JL a) :: st) ws := by
  subst hp
  exact AW.one hi (fun p e R s m args below meth c H locs A ls hx hb hd hc hl h => lv_ldiv hx hb hd (JL_ne0 hb0 (by omega)) (by rw [JL_div ha hb0 h0 h1]; exact h)) kk

theorem x_lrem {a b : Int} (hi : M.2.2.2.2[i]? = some (pc, .lrem, 1)) (hp : pc + 1 = pc') (ha : rl a) (hb0 : rl b) (h0 : 0 ≤ a) (h1 : 0 < b)
    (kk : AW G d mc ms M X F k n pc' L (.long (JL (a % b)) :: st) ws) : AW G d mc ms M X F k n pc L (.long (JL b) :: .long (JL a) :: st) ws := by
  subst hp
  exact AW.one hi (fun p e R s m args below meth c H locs A ls hx hb hd hc hl h => lv_lrem hx hb hd (JL_ne0 hb0 (by omega)) (by rw [JL_rem ha hb0 h0 h1]; exact h)) kk

theorem x_lcmp {a b : Int} (hi : M.2.2.2.2[i]? = some (pc, .lcmp, 1)) (hp : pc + 1 = pc') (ha : rl a) (hb0 : rl b)
    (kk : AW G d mc ms M X F k n pc' L (.int (J (if b < a then 1 else if a = b then 0 else -1)) :: st) ws) : AW G d mc ms M X F k n pc L (.long (JL b) :: .long (JL a) :: st) ws := by
  subst hp
  exact AW.one hi (fun p e R s m args below meth c H locs A ls hx hb hd hc hl h => W.lcmp hx hb hd (by rw [lg_J ha hb0]; exact h)) kk

theorem x_i2l {a : Int} (hi : M.2.2.2.2[i]? = some (pc, .i2l, 1)) (hp : pc + 1 = pc') (ha : rg a)
    (kk : AW G d mc ms M X F k n pc' L (.long (JL a) :: st) ws) : AW G d mc ms M X F k n pc L (.int (J a) :: st) ws := by
  subst hp
  exact AW.one hi (fun p e R s m args below meth c H locs A ls hx hb hd hc hl h => lv_i2l hx hb hd (J_l ha) h) kk

theorem x_l2i {a : Int} (hi : M.2.2.2.2[i]? = some (pc, .l2i, 1)) (hp : pc + 1 = pc')
    (kk : AW G d mc ms M X F k n pc' L (.int (J a) :: st) ws) : AW G d mc ms M X F k n pc L (.long (JL a) :: st) ws := by
  subst hp
  exact AW.one hi (fun p e R s m args below meth c H locs A ls hx hb hd hc hl h => lv_l2i hx hb hd (JL_i a) h) kk

theorem x_iconst {a : Int} (hi : M.2.2.2.2[i]? = some (pc, .iconst a, 1)) (hp : pc + 1 = pc')
    (kk : AW G d mc ms M X F k n pc' L (.int (J a) :: st) ws) : AW G d mc ms M X F k n pc L (st) ws := by
  subst hp
  exact AW.one hi (fun p e R s m args below meth c H locs A ls hx hb hd hc hl h => lv_iconst hx hb hd rfl h) kk

theorem x_bipush {a : Int} (hi : M.2.2.2.2[i]? = some (pc, .bipush a, 2)) (hp : pc + 2 = pc') (hv : (Int8.ofInt a).toInt32 = J a)
    (kk : AW G d mc ms M X F k n pc' L (.int (J a) :: st) ws) : AW G d mc ms M X F k n pc L (st) ws := by
  subst hp
  exact AW.one hi (fun p e R s m args below meth c H locs A ls hx hb hd hc hl h => lv_bipush hx hb hd hv h) kk

theorem x_sipush {a : Int} (hi : M.2.2.2.2[i]? = some (pc, .sipush a, 3)) (hp : pc + 3 = pc') (hv : (Int16.ofInt a).toInt32 = J a)
    (kk : AW G d mc ms M X F k n pc' L (.int (J a) :: st) ws) : AW G d mc ms M X F k n pc L (st) ws := by
  subst hp
  exact AW.one hi (fun p e R s m args below meth c H locs A ls hx hb hd hc hl h => lv_sipush hx hb hd hv h) kk

theorem x_lconst {f : Fin 2} {a : Int} (hi : M.2.2.2.2[i]? = some (pc, .lconst f, 1)) (hp : pc + 1 = pc') (hv : Int64.ofNat (f : Nat) = JL a)
    (kk : AW G d mc ms M X F k n pc' L (.long (JL a) :: st) ws) : AW G d mc ms M X F k n pc L (st) ws := by
  subst hp
  exact AW.one hi (fun p e R s m args below meth c H locs A ls hx hb hd hc hl h => lv_lconst hx hb hd hv h) kk

theorem x_ldc {idx : Nat} {a : Int} (hi : M.2.2.2.2[i]? = some (pc, .ldc idx, 2)) (hp : pc + 2 = pc') (hw : Cond.constant M.1.cls idx (J a) ∈ lw_tbl)
    (kk : AW G d mc ms M X F k n pc' L (.int (J a) :: st) ws) : AW G d mc ms M X F k n pc L (st) ws := by
  subst hp
  exact AW.one hi (fun p e R s m args below meth c H locs A ls hx hb hd hc hl h => lv_ldc hx hb hc.1.2.2.2.2 (hc.2.1.2.2.1.use hw rfl rfl) hd h) kk

theorem x_ldc2 {idx : Nat} {a : Int} (hi : M.2.2.2.2[i]? = some (pc, .ldc2_w idx, 3)) (hp : pc + 3 = pc') (hw : Cond.constantLong M.1.cls idx (JL a) ∈ lw_tbl)
    (kk : AW G d mc ms M X F k n pc' L (.long (JL a) :: st) ws) : AW G d mc ms M X F k n pc L (st) ws := by
  subst hp
  exact AW.one hi (fun p e R s m args below meth c H locs A ls hx hb hd hc hl h => lv_ldc2 hx hb hc.1.2.2.2.2 (hc.2.1.2.2.1.use hw rfl rfl) hd h) kk

theorem x_dup {v : Value} (hi : M.2.2.2.2[i]? = some (pc, .dup, 1)) (hp : pc + 1 = pc') (hv : v.category = 1)
    (kk : AW G d mc ms M X F k n pc' L (v :: v :: st) ws) : AW G d mc ms M X F k n pc L (v :: st) ws := by
  subst hp
  exact AW.one hi (fun p e R s m args below meth c H locs A ls hx hb hd hc hl h => lv_dup hx hb hd hv h) kk

theorem x_dup2 {v u : Value} (hi : M.2.2.2.2[i]? = some (pc, .dup2, 1)) (hp : pc + 1 = pc') (hv : v.category = 1) (hu : u.category = 1)
    (kk : AW G d mc ms M X F k n pc' L (v :: u :: v :: u :: st) ws) : AW G d mc ms M X F k n pc L (v :: u :: st) ws := by
  subst hp
  exact AW.one hi (fun p e R s m args below meth c H locs A ls hx hb hd hc hl h => lv_dup2_11 hx hb hd hv hu h) kk

theorem x_pop {v : Value} (hi : M.2.2.2.2[i]? = some (pc, .pop, 1)) (hp : pc + 1 = pc') (hv : v.category = 1)
    (kk : AW G d mc ms M X F k n pc' L (st) ws) : AW G d mc ms M X F k n pc L (v :: st) ws := by
  subst hp
  exact AW.one hi (fun p e R s m args below meth c H locs A ls hx hb hd hc hl h => lv_pop hx hb hd hv h) kk

theorem x_iload_n {f : Fin 4} {j : Nat} {x : Int32} (hi : M.2.2.2.2[i]? = some (pc, .iload_n f, 1)) (hp : pc + 1 = pc') (hj : (f : Nat) = j) (hl0 : L[j]? = some (some (.int x)))
    (kk : AW G d mc ms M X F k n pc' L (.int x :: st) ws) : AW G d mc ms M X F k n pc L (st) ws := by
  subst hp
  exact AW.one hi (fun p e R s m args below meth c H locs A ls hx hb hd hc hl h => lv_iload_n hx hb hd hj (hl.at hl0) h) kk

theorem x_iload {j : Nat} {x : Int32} (hi : M.2.2.2.2[i]? = some (pc, .iload j, 2)) (hp : pc + 2 = pc') (hl0 : L[j]? = some (some (.int x)))
    (kk : AW G d mc ms M X F k n pc' L (.int x :: st) ws) : AW G d mc ms M X F k n pc L (st) ws := by
  subst hp
  exact AW.one hi (fun p e R s m args below meth c H locs A ls hx hb hd hc hl h => lv_iload hx hb hd (hl.at hl0) h) kk

theorem x_lload_n {f : Fin 4} {j : Nat} {x : Int64} (hi : M.2.2.2.2[i]? = some (pc, .lload_n f, 1)) (hp : pc + 1 = pc') (hj : (f : Nat) = j) (hl0 : L[j]? = some (some (.long x)))
    (kk : AW G d mc ms M X F k n pc' L (.long x :: st) ws) : AW G d mc ms M X F k n pc L (st) ws := by
  subst hp
  exact AW.one hi (fun p e R s m args below meth c H locs A ls hx hb hd hc hl h => lv_lload_n hx hb hd hj (hl.at hl0) h) kk

theorem x_lload {j : Nat} {x : Int64} (hi : M.2.2.2.2[i]? = some (pc, .lload j, 2)) (hp : pc + 2 = pc') (hl0 : L[j]? = some (some (.long x)))
    (kk : AW G d mc ms M X F k n pc' L (.long x :: st) ws) : AW G d mc ms M X F k n pc L (st) ws := by
  subst hp
  exact AW.one hi (fun p e R s m args below meth c H locs A ls hx hb hd hc hl h => lv_lload hx hb hd (hl.at hl0) h) kk

theorem x_aload_n {f : Fin 4} {j : Nat} {x : Nat} (hi : M.2.2.2.2[i]? = some (pc, .aload_n f, 1)) (hp : pc + 1 = pc') (hj : (f : Nat) = j) (hl0 : L[j]? = some (some (.ref x)))
    (kk : AW G d mc ms M X F k n pc' L (.ref x :: st) ws) : AW G d mc ms M X F k n pc L (st) ws := by
  subst hp
  exact AW.one hi (fun p e R s m args below meth c H locs A ls hx hb hd hc hl h => lv_aload_n hx hb hd hj (hl.at hl0) h) kk

theorem x_aload {j : Nat} {x : Nat} (hi : M.2.2.2.2[i]? = some (pc, .aload j, 2)) (hp : pc + 2 = pc') (hl0 : L[j]? = some (some (.ref x)))
    (kk : AW G d mc ms M X F k n pc' L (.ref x :: st) ws) : AW G d mc ms M X F k n pc L (st) ws := by
  subst hp
  exact AW.one hi (fun p e R s m args below meth c H locs A ls hx hb hd hc hl h => lv_aload hx hb hd (hl.at hl0) h) kk

theorem x_goto {off : Int} (hi : M.2.2.2.2[i]? = some (pc, .goto off, 3)) (hp : (pc : Int) + off = (pc' : Int)) (kk : AW G d mc ms M X F k n pc' L st ws) : AW G d mc ms M X F k n pc L st ws :=
  AW.one hi (fun p e R s m args below meth c H locs A ls hx hb hd hc hl h => lv_goto hx hb hd hp h) kk

theorem x_icmpeq {a b off : Int} {tgt : Nat} (hi : M.2.2.2.2[i]? = some (pc, .if_icmp .eq off, 3)) (hp : pc + 3 = pc') (ht : (pc : Int) + off = (tgt : Int)) (ha : rg a) (hb0 : rg b)
    (kt : a = b → AW G d mc ms M X F k n tgt L st ws) (kf : ¬ a = b → AW G d mc ms M X F k n pc' L st ws) : AW G d mc ms M X F k n pc L (.int (J b) :: .int (J a) :: st) ws := by
  subst hp
  intro p e R s m args below meth c H locs A ls hc hP hD hS hl
  refine lv_icmp_eq hc.1.1 hc.1.2.1 (hc.dec hi) ht (fun h => kt ?_ p e R s m args below meth c H locs A ls hc hP hD hS hl) (fun h => kf ?_ p e R s m args below meth c H locs A ls hc hP hD hS hl)
  · simp only [J_eq ha hb0, J_lt ha hb0, J_lt hb0 ha, J_le ha hb0, J_le hb0 ha, ge_iff_le, gt_iff_lt, ne_eq, Int.not_lt, Int.not_le] at h ⊢; omega
  · simp only [J_eq ha hb0, J_lt ha hb0, J_lt hb0 ha, J_le ha hb0, J_le hb0 ha, ge_iff_le, gt_iff_lt, ne_eq, Int.not_lt, Int.not_le] at h ⊢; omega

theorem x_ifeq {a off : Int} {tgt : Nat} (hi : M.2.2.2.2[i]? = some (pc, .ifCond .eq off, 3)) (hp : pc + 3 = pc') (ht : (pc : Int) + off = (tgt : Int)) (ha : rg a)
    (kt : a = 0 → AW G d mc ms M X F k n tgt L st ws) (kf : ¬ a = 0 → AW G d mc ms M X F k n pc' L st ws) : AW G d mc ms M X F k n pc L (.int (J a) :: st) ws := by
  subst hp
  have hb0 := rg_0
  intro p e R s m args below meth c H locs A ls hc hP hD hS hl
  refine lv_if_eq hc.1.1 hc.1.2.1 (hc.dec hi) ht (fun h => kt ?_ p e R s m args below meth c H locs A ls hc hP hD hS hl) (fun h => kf ?_ p e R s m args below meth c H locs A ls hc hP hD hS hl)
  · simp only [← J_0, J_eq ha hb0, J_lt ha hb0, J_lt hb0 ha, J_le ha hb0, J_le hb0 ha, ge_iff_le, gt_iff_lt, ne_eq, Int.not_lt, Int.not_le] at h ⊢; omega
  · simp only [← J_0, J_eq ha hb0, J_lt ha hb0, J_lt hb0 ha, J_le ha hb0, J_le hb0 ha, ge_iff_le, gt_iff_lt, ne_eq, Int.not_lt, Int.not_le] at h ⊢; omega

theorem x_icmpne {a b off : Int} {tgt : Nat} (hi : M.2.2.2.2[i]? = some (pc, .if_icmp .ne off, 3)) (hp : pc + 3 = pc') (ht : (pc : Int) + off = (tgt : Int)) (ha : rg a) (hb0 : rg b)
    (kt : ¬ a = b → AW G d mc ms M X F k n tgt L st ws) (kf : a = b → AW G d mc ms M X F k n pc' L st ws) : AW G d mc ms M X F k n pc L (.int (J b) :: .int (J a) :: st) ws := by
  subst hp
  intro p e R s m args below meth c H locs A ls hc hP hD hS hl
  refine lv_icmp_ne hc.1.1 hc.1.2.1 (hc.dec hi) ht (fun h => kt ?_ p e R s m args below meth c H locs A ls hc hP hD hS hl) (fun h => kf ?_ p e R s m args below meth c H locs A ls hc hP hD hS hl)
  · simp only [J_eq ha hb0, J_lt ha hb0, J_lt hb0 ha, J_le ha hb0, J_le hb0 ha, ge_iff_le, gt_iff_lt, ne_eq, Int.not_lt, Int.not_le] at h ⊢; omega
  · simp only [J_eq ha hb0, J_lt ha hb0, J_lt hb0 ha, J_le ha hb0, J_le hb0 ha, ge_iff_le, gt_iff_lt, ne_eq, Int.not_lt, Int.not_le] at h ⊢; omega

theorem x_ifne {a off : Int} {tgt : Nat} (hi : M.2.2.2.2[i]? = some (pc, .ifCond .ne off, 3)) (hp : pc + 3 = pc') (ht : (pc : Int) + off = (tgt : Int)) (ha : rg a)
    (kt : ¬ a = 0 → AW G d mc ms M X F k n tgt L st ws) (kf : a = 0 → AW G d mc ms M X F k n pc' L st ws) : AW G d mc ms M X F k n pc L (.int (J a) :: st) ws := by
  subst hp
  have hb0 := rg_0
  intro p e R s m args below meth c H locs A ls hc hP hD hS hl
  refine lv_if_ne hc.1.1 hc.1.2.1 (hc.dec hi) ht (fun h => kt ?_ p e R s m args below meth c H locs A ls hc hP hD hS hl) (fun h => kf ?_ p e R s m args below meth c H locs A ls hc hP hD hS hl)
  · simp only [← J_0, J_eq ha hb0, J_lt ha hb0, J_lt hb0 ha, J_le ha hb0, J_le hb0 ha, ge_iff_le, gt_iff_lt, ne_eq, Int.not_lt, Int.not_le] at h ⊢; omega
  · simp only [← J_0, J_eq ha hb0, J_lt ha hb0, J_lt hb0 ha, J_le ha hb0, J_le hb0 ha, ge_iff_le, gt_iff_lt, ne_eq, Int.not_lt, Int.not_le] at h ⊢; omega

theorem x_icmplt {a b off : Int} {tgt : Nat} (hi : M.2.2.2.2[i]? = some (pc, .if_icmp .lt off, 3)) (hp : pc + 3 = pc') (ht : (pc : Int) + off = (tgt : Int)) (ha : rg a) (hb0 : rg b)
    (kt : a < b → AW G d mc ms M X F k n tgt L st ws) (kf : b ≤ a → AW G d mc ms M X F k n pc' L st ws) : AW G d mc ms M X F k n pc L (.int (J b) :: .int (J a) :: st) ws := by
  subst hp
  intro p e R s m args below meth c H locs A ls hc hP hD hS hl
  refine lv_icmp_lt hc.1.1 hc.1.2.1 (hc.dec hi) ht (fun h => kt ?_ p e R s m args below meth c H locs A ls hc hP hD hS hl) (fun h => kf ?_ p e R s m args below meth c H locs A ls hc hP hD hS hl)
  · simp only [J_eq ha hb0, J_lt ha hb0, J_lt hb0 ha, J_le ha hb0, J_le hb0 ha, ge_iff_le, gt_iff_lt, ne_eq, Int.not_lt, Int.not_le] at h ⊢; omega
  · simp only [J_eq ha hb0, J_lt ha hb0, J_lt hb0 ha, J_le ha hb0, J_le hb0 ha, ge_iff_le, gt_iff_lt, ne_eq, Int.not_lt, Int.not_le] at h ⊢; omega

theorem x_iflt {a off : Int} {tgt : Nat} (hi : M.2.2.2.2[i]? = some (pc, .ifCond .lt off, 3)) (hp : pc + 3 = pc') (ht : (pc : Int) + off = (tgt : Int)) (ha : rg a)
    (kt : a < 0 → AW G d mc ms M X F k n tgt L st ws) (kf : 0 ≤ a → AW G d mc ms M X F k n pc' L st ws) : AW G d mc ms M X F k n pc L (.int (J a) :: st) ws := by
  subst hp
  have hb0 := rg_0
  intro p e R s m args below meth c H locs A ls hc hP hD hS hl
  refine lv_if_lt hc.1.1 hc.1.2.1 (hc.dec hi) ht (fun h => kt ?_ p e R s m args below meth c H locs A ls hc hP hD hS hl) (fun h => kf ?_ p e R s m args below meth c H locs A ls hc hP hD hS hl)
  · simp only [← J_0, J_eq ha hb0, J_lt ha hb0, J_lt hb0 ha, J_le ha hb0, J_le hb0 ha, ge_iff_le, gt_iff_lt, ne_eq, Int.not_lt, Int.not_le] at h ⊢; omega
  · simp only [← J_0, J_eq ha hb0, J_lt ha hb0, J_lt hb0 ha, J_le ha hb0, J_le hb0 ha, ge_iff_le, gt_iff_lt, ne_eq, Int.not_lt, Int.not_le] at h ⊢; omega

theorem x_icmpge {a b off : Int} {tgt : Nat} (hi : M.2.2.2.2[i]? = some (pc, .if_icmp .ge off, 3)) (hp : pc + 3 = pc') (ht : (pc : Int) + off = (tgt : Int)) (ha : rg a) (hb0 : rg b)
    (kt : b ≤ a → AW G d mc ms M X F k n tgt L st ws) (kf : a < b → AW G d mc ms M X F k n pc' L st ws) : AW G d mc ms M X F k n pc L (.int (J b) :: .int (J a) :: st) ws := by
  subst hp
  intro p e R s m args below meth c H locs A ls hc hP hD hS hl
  refine lv_icmp_ge hc.1.1 hc.1.2.1 (hc.dec hi) ht (fun h => kt ?_ p e R s m args below meth c H locs A ls hc hP hD hS hl) (fun h => kf ?_ p e R s m args below meth c H locs A ls hc hP hD hS hl)
  · simp only [J_eq ha hb0, J_lt ha hb0, J_lt hb0 ha, J_le ha hb0, J_le hb0 ha, ge_iff_le, gt_iff_lt, ne_eq, Int.not_lt, Int.not_le] at h ⊢; omega
  · simp only [J_eq ha hb0, J_lt ha hb0, J_lt hb0 ha, J_le ha hb0, J_le hb0 ha, ge_iff_le, gt_iff_lt, ne_eq, Int.not_lt, Int.not_le] at h ⊢; omega

theorem x_ifge {a off : Int} {tgt : Nat} (hi : M.2.2.2.2[i]? = some (pc, .ifCond .ge off, 3)) (hp : pc + 3 = pc') (ht : (pc : Int) + off = (tgt : Int)) (ha : rg a)
    (kt : 0 ≤ a → AW G d mc ms M X F k n tgt L st ws) (kf : a < 0 → AW G d mc ms M X F k n pc' L st ws) : AW G d mc ms M X F k n pc L (.int (J a) :: st) ws := by
  subst hp
  have hb0 := rg_0
  intro p e R s m args below meth c H locs A ls hc hP hD hS hl
  refine lv_if_ge hc.1.1 hc.1.2.1 (hc.dec hi) ht (fun h => kt ?_ p e R s m args below meth c H locs A ls hc hP hD hS hl) (fun h => kf ?_ p e R s m args below meth c H locs A ls hc hP hD hS hl)
  · simp only [← J_0, J_eq ha hb0, J_lt ha hb0, J_lt hb0 ha, J_le ha hb0, J_le hb0 ha, ge_iff_le, gt_iff_lt, ne_eq, Int.not_lt, Int.not_le] at h ⊢; omega
  · simp only [← J_0, J_eq ha hb0, J_lt ha hb0, J_lt hb0 ha, J_le ha hb0, J_le hb0 ha, ge_iff_le, gt_iff_lt, ne_eq, Int.not_lt, Int.not_le] at h ⊢; omega

theorem x_icmpgt {a b off : Int} {tgt : Nat} (hi : M.2.2.2.2[i]? = some (pc, .if_icmp .gt off, 3)) (hp : pc + 3 = pc') (ht : (pc : Int) + off = (tgt : Int)) (ha : rg a) (hb0 : rg b)
    (kt : b < a → AW G d mc ms M X F k n tgt L st ws) (kf : a ≤ b → AW G d mc ms M X F k n pc' L st ws) : AW G d mc ms M X F k n pc L (.int (J b) :: .int (J a) :: st) ws := by
  subst hp
  intro p e R s m args below meth c H locs A ls hc hP hD hS hl
  refine lv_icmp_gt hc.1.1 hc.1.2.1 (hc.dec hi) ht (fun h => kt ?_ p e R s m args below meth c H locs A ls hc hP hD hS hl) (fun h => kf ?_ p e R s m args below meth c H locs A ls hc hP hD hS hl)
  · simp only [J_eq ha hb0, J_lt ha hb0, J_lt hb0 ha, J_le ha hb0, J_le hb0 ha, ge_iff_le, gt_iff_lt, ne_eq, Int.not_lt, Int.not_le] at h ⊢; omega
  · simp only [J_eq ha hb0, J_lt ha hb0, J_lt hb0 ha, J_le ha hb0, J_le hb0 ha, ge_iff_le, gt_iff_lt, ne_eq, Int.not_lt, Int.not_le] at h ⊢; omega

theorem x_ifgt {a off : Int} {tgt : Nat} (hi : M.2.2.2.2[i]? = some (pc, .ifCond .gt off, 3)) (hp : pc + 3 = pc') (ht : (pc : Int) + off = (tgt : Int)) (ha : rg a)
    (kt : 0 < a → AW G d mc ms M X F k n tgt L st ws) (kf : a ≤ 0 → AW G d mc ms M X F k n pc' L st ws) : AW G d mc ms M X F k n pc L (.int (J a) :: st) ws := by
  subst hp
  have hb0 := rg_0
  intro p e R s m args below meth c H locs A ls hc hP hD hS hl
  refine lv_if_gt hc.1.1 hc.1.2.1 (hc.dec hi) ht (fun h => kt ?_ p e R s m args below meth c H locs A ls hc hP hD hS hl) (fun h => kf ?_ p e R s m args below meth c H locs A ls hc hP hD hS hl)
  · simp only [← J_0, J_eq ha hb0, J_lt ha hb0, J_lt hb0 ha, J_le ha hb0, J_le hb0 ha, ge_iff_le, gt_iff_lt, ne_eq, Int.not_lt, Int.not_le] at h ⊢; omega
  · simp only [← J_0, J_eq ha hb0, J_lt ha hb0, J_lt hb0 ha, J_le ha hb0, J_le hb0 ha, ge_iff_le, gt_iff_lt, ne_eq, Int.not_lt, Int.not_le] at h ⊢; omega

theorem x_icmple {a b off : Int} {tgt : Nat} (hi : M.2.2.2.2[i]? = some (pc, .if_icmp .le off, 3)) (hp : pc + 3 = pc') (ht : (pc : Int) + off = (tgt : Int)) (ha : rg a) (hb0 : rg b)
    (kt : a ≤ b → AW G d mc ms M X F k n tgt L st ws) (kf : b < a → AW G d mc ms M X F k n pc' L st ws) : AW G d mc ms M X F k n pc L (.int (J b) :: .int (J a) :: st) ws := by
  subst hp
  intro p e R s m args below meth c H locs A ls hc hP hD hS hl
  refine lv_icmp_le hc.1.1 hc.1.2.1 (hc.dec hi) ht (fun h => kt ?_ p e R s m args below meth c H locs A ls hc hP hD hS hl) (fun h => kf ?_ p e R s m args below meth c H locs A ls hc hP hD hS hl)
  · simp only [J_eq ha hb0, J_lt ha hb0, J_lt hb0 ha, J_le ha hb0, J_le hb0 ha, ge_iff_le, gt_iff_lt, ne_eq, Int.not_lt, Int.not_le] at h ⊢; omega
  · simp only [J_eq ha hb0, J_lt ha hb0, J_lt hb0 ha, J_le ha hb0, J_le hb0 ha, ge_iff_le, gt_iff_lt, ne_eq, Int.not_lt, Int.not_le] at h ⊢; omega

theorem x_ifle {a off : Int} {tgt : Nat} (hi : M.2.2.2.2[i]? = some (pc, .ifCond .le off, 3)) (hp : pc + 3 = pc') (ht : (pc : Int) + off = (tgt : Int)) (ha : rg a)
    (kt : a ≤ 0 → AW G d mc ms M X F k n tgt L st ws) (kf : 0 < a → AW G d mc ms M X F k n pc' L st ws) : AW G d mc ms M X F k n pc L (.int (J a) :: st) ws := by
  subst hp
  have hb0 := rg_0
  intro p e R s m args below meth c H locs A ls hc hP hD hS hl
  refine lv_if_le hc.1.1 hc.1.2.1 (hc.dec hi) ht (fun h => kt ?_ p e R s m args below meth c H locs A ls hc hP hD hS hl) (fun h => kf ?_ p e R s m args below meth c H locs A ls hc hP hD hS hl)
  · simp only [← J_0, J_eq ha hb0, J_lt ha hb0, J_lt hb0 ha, J_le ha hb0, J_le hb0 ha, ge_iff_le, gt_iff_lt, ne_eq, Int.not_lt, Int.not_le] at h ⊢; omega
  · simp only [← J_0, J_eq ha hb0, J_lt ha hb0, J_lt hb0 ha, J_le ha hb0, J_le hb0 ha, ge_iff_le, gt_iff_lt, ne_eq, Int.not_lt, Int.not_le] at h ⊢; omega

theorem x_istore_n {j : Nat} {f : Fin 4} {x : Int32} {L' : List (Option Value)} (hi : M.2.2.2.2[i]? = some (pc, .istore_n f, 1)) (hp : pc + 1 = pc') (hj : (f : Nat) = j) (hc0 : catok L j = true) (hn : j < M.2.2.1) (hL : L.set j (some (.int x)) = L')
    (kk : AW G d mc ms M X F k n pc' L' st ws) : AW G d mc ms M X F k n pc L (.int x :: st) ws := by
  subst hp
  subst hL
  intro p e R s m args below meth c H locs A ls hc hP hD hS hl
  exact lv_istore_n hc.1.1 hc.1.2.1 (hc.dec hi) hj hl hn rfl (fun ls' hl' => kk p e R s m args below meth c H locs A ls' hc hP hD hS (lvh.of hl' (lvl_store1 hc0)))

theorem x_istore {j : Nat} {x : Int32} {L' : List (Option Value)} (hi : M.2.2.2.2[i]? = some (pc, .istore j, 2)) (hp : pc + 2 = pc') (hc0 : catok L j = true) (hn : j < M.2.2.1) (hL : L.set j (some (.int x)) = L')
    (kk : AW G d mc ms M X F k n pc' L' st ws) : AW G d mc ms M X F k n pc L (.int x :: st) ws := by
  subst hp
  subst hL
  intro p e R s m args below meth c H locs A ls hc hP hD hS hl
  exact lv_istore hc.1.1 hc.1.2.1 (hc.dec hi) hl hn rfl (fun ls' hl' => kk p e R s m args below meth c H locs A ls' hc hP hD hS (lvh.of hl' (lvl_store1 hc0)))

theorem x_lstore_n {j : Nat} {f : Fin 4} {x : Int64} {L' : List (Option Value)} (hi : M.2.2.2.2[i]? = some (pc, .lstore_n f, 1)) (hp : pc + 1 = pc') (hj : (f : Nat) = j) (hc0 : catok L j = true) (hn : j + 1 < M.2.2.1) (hL : (L.set j (some (.long x))).set (j + 1) none = L')
    (kk : AW G d mc ms M X F k n pc' L' st ws) : AW G d mc ms M X F k n pc L (.long x :: st) ws := by
  subst hp
  subst hL
  intro p e R s m args below meth c H locs A ls hc hP hD hS hl
  exact lv_lstore_n hc.1.1 hc.1.2.1 (hc.dec hi) hj hl hn rfl (fun ls' hl' => kk p e R s m args below meth c H locs A ls' hc hP hD hS (lvh.of hl' (lvl_store2 hc0)))

theorem x_lstore {j : Nat} {x : Int64} {L' : List (Option Value)} (hi : M.2.2.2.2[i]? = some (pc, .lstore j, 2)) (hp : pc + 2 = pc') (hc0 : catok L j = true) (hn : j + 1 < M.2.2.1) (hL : (L.set j (some (.long x))).set (j + 1) none = L')
    (kk : AW G d mc ms M X F k n pc' L' st ws) : AW G d mc ms M X F k n pc L (.long x :: st) ws := by
  subst hp
  subst hL
  intro p e R s m args below meth c H locs A ls hc hP hD hS hl
  exact lv_lstore hc.1.1 hc.1.2.1 (hc.dec hi) hl hn rfl (fun ls' hl' => kk p e R s m args below meth c H locs A ls' hc hP hD hS (lvh.of hl' (lvl_store2 hc0)))

theorem x_astore_n {j : Nat} {f : Fin 4} {x : Nat} {L' : List (Option Value)} (hi : M.2.2.2.2[i]? = some (pc, .astore_n f, 1)) (hp : pc + 1 = pc') (hj : (f : Nat) = j) (hc0 : catok L j = true) (hn : j < M.2.2.1) (hL : L.set j (some (.ref x)) = L')
    (kk : AW G d mc ms M X F k n pc' L' st ws) : AW G d mc ms M X F k n pc L (.ref x :: st) ws := by
  subst hp
  subst hL
  intro p e R s m args below meth c H locs A ls hc hP hD hS hl
  exact lv_astore_n hc.1.1 hc.1.2.1 (hc.dec hi) hj hl hn rfl (fun ls' hl' => kk p e R s m args below meth c H locs A ls' hc hP hD hS (lvh.of hl' (lvl_store1 hc0)))

theorem x_iinc {j : Nat} {a b : Int} {L' : List (Option Value)} (hi : M.2.2.2.2[i]? = some (pc, .iinc j b, 3)) (hp : pc + 3 = pc') (hl0 : L[j]? = some (some (.int (J a)))) (hc0 : catok L j = true) (hn : j < M.2.2.1) (hL : L.set j (some (.int (J (a + b)))) = L')
    (kk : AW G d mc ms M X F k n pc' L' st ws) : AW G d mc ms M X F k n pc L st ws := by
  subst hp
  subst hL
  intro p e R s m args below meth c H locs A ls hc hP hD hS hl
  obtain ⟨q, hq⟩ := List.getElem?_of_mem ((lvl_mem L 0 (j, .int (J a))).mpr ⟨j, by simp, hl0⟩)
  exact lv_iinc hc.1.1 hc.1.2.1 (hc.dec hi) hl hq (J_add a b) hn rfl (fun ls' hl' => kk p e R s m args below meth c H locs A ls' hc hP hD hS (lvh.of hl' (lvl_store1 hc0)))

theorem x_tableIn {dflt lo hi2 off z v : Int} {offs : Array Int} {len tgt : Nat} (hi : M.2.2.2.2[i]? = some (pc, .tableswitch dflt lo hi2 offs, len)) (hz : z = v) (hv : rg v) (h1 : ¬ v < lo) (h2 : ¬ hi2 < v) (ho : offs[(v - lo).toNat]? = some off) (ht : (pc : Int) + off = (tgt : Int))
    (kk : AW G d mc ms M X F k n tgt L st ws) : AW G d mc ms M X F k n pc L (.int (J z) :: st) ws := by
  subst hz
  exact AW.one hi (fun p e R s m args below meth c H locs A ls hx hb hd hc hl h => lv_tableIn hx hb hd (by rw [J_toInt hv]; exact h1) (by rw [J_toInt hv]; exact h2) (by rw [J_toInt hv]; exact ho) ht h) kk
theorem x_tableOut {dflt lo hi2 z : Int} {offs : Array Int} {len tgt : Nat} (hi : M.2.2.2.2[i]? = some (pc, .tableswitch dflt lo hi2 offs, len)) (hv : rg z) (h : z < lo ∨ hi2 < z) (ht : (pc : Int) + dflt = (tgt : Int))
    (kk : AW G d mc ms M X F k n tgt L st ws) : AW G d mc ms M X F k n pc L (.int (J z) :: st) ws :=
  AW.one hi (fun p e R s m args below meth c H locs A ls hx hb hd hc hl h0 => lv_tableOut hx hb hd (by rw [J_toInt hv]; exact h) ht h0) kk
theorem x_look {dflt off z : Int} {ps : Array (Int × Int)} {len tgt : Nat} (hi : M.2.2.2.2[i]? = some (pc, .lookupswitch dflt ps, len)) (hs : (ps.toList.zip (ps.toList.drop 1)).all (fun (a, next) => a.1 < next.1) = true) (hv : rg z) (ho : Op.lookupswitch.offset ps.toList dflt z = off) (ht : (pc : Int) + off = (tgt : Int))
    (kk : AW G d mc ms M X F k n tgt L st ws) : AW G d mc ms M X F k n pc L (.int (J z) :: st) ws :=
  AW.one hi (fun p e R s m args below meth c H locs A ls hx hb hd hc hl h0 => lv_lookup hx hb hd hs (by rw [J_toInt hv]; exact ho) ht h0) kk
end AWS

section AWE
variable {G : GG} {d mc ms : Nat} {M : MM} {k n pc i : Nat} {L : List (Option Value)} {ws : va_W} {Q : Option Value → va_W → Prop}
theorem x_ireturn {x : Int32} (hi : M.2.2.2.2[i]? = some (pc, .ireturn, 1)) (hr : M.2.2.2.1 = some .int) (hk : k ≤ mc) (hn : n ≤ ms) (hq : Q (some (.int x)) ws) : AW G d mc ms M XT (mF G mc ms Q) k n pc L [.int x] ws := by
  intro p e R s m args below meth c H locs A ls hc hP hD hS hl
  refine W.widen hk hn ?_
  exact W.iret hc.1.1 hc.1.2.1 (hc.1.2.2.1.trans hr) (fun t ht hW => ⟨⟨_, ws, rfl, hq, by rw [ht]; exact hP, hD⟩, hS.F ht⟩) hS.2.2 (hc.dec hi) hc.2.1.1
theorem x_zreturn {z : Int} (hi : M.2.2.2.2[i]? = some (pc, .ireturn, 1)) (hr : M.2.2.2.1 = some .boolean) (hk : k ≤ mc) (hn : n ≤ ms) (hz : z = 0 ∨ z = 1) (hq : Q (some (.int (J z))) ws) : AW G d mc ms M XT (mF G mc ms Q) k n pc L [.int (J z)] ws := by
  intro p e R s m args below meth c H locs A ls hc hP hD hS hl
  refine W.widen hk hn ?_
  exact W.zret hc.1.1 hc.1.2.1 (hc.1.2.2.1.trans hr) (by rcases hz with rfl | rfl <;> decide) (fun t ht hW => ⟨⟨_, ws, rfl, hq, by rw [ht]; exact hP, hD⟩, hS.F ht⟩) hS.2.2 (hc.dec hi) hc.2.1.1
theorem x_lreturn {x : Int64} (hi : M.2.2.2.2[i]? = some (pc, .lreturn, 1)) (hr : M.2.2.2.1 = some .long) (hk : k ≤ mc) (hn : n ≤ ms) (hq : Q (some (.long x)) ws) : AW G d mc ms M XT (mF G mc ms Q) k n pc L [.long x] ws := by
  intro p e R s m args below meth c H locs A ls hc hP hD hS hl
  refine W.widen hk hn ?_
  exact W.lret hc.1.1 hc.1.2.1 (hc.1.2.2.1.trans hr) (fun t ht hW => ⟨⟨_, ws, rfl, hq, by rw [ht]; exact hP, hD⟩, hS.F ht⟩) hS.2.2 (hc.dec hi) hc.2.1.1
theorem x_return (hi : M.2.2.2.2[i]? = some (pc, .return_, 1)) (hr : M.2.2.2.1 = none) (hk : k ≤ mc) (hn : n ≤ ms) (hq : Q none ws) : AW G d mc ms M XT (mF G mc ms Q) k n pc L [] ws := by
  intro p e R s m args below meth c H locs A ls hc hP hD hS hl
  refine W.widen hk hn ?_
  exact W.vret hc.1.1 hc.1.2.1 (hc.1.2.2.1.trans hr) (fun t ht hW => ⟨⟨_, ws, rfl, hq, by rw [ht]; exact hP, hD⟩, hS.F ht⟩) hS.2.2 (hc.dec hi) hc.2.1.1
end AWE
end
