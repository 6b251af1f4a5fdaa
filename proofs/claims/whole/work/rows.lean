section
-- ===== PART A: goes FIRST, ahead of the names: the tables' words, and 'selects' of the private methods out of them =====
/-- a private method of a class that the tables say can be made, by its rows of tables_1 -/
def lw_okq (q : MethodName × Nat) : Prop := (q.1.cls ≠ "java/lang/invoke/MethodHandle" ∧ q.1.cls ≠ "java/lang/invoke/VarHandle") ∧ Cond.instantiable q.1.cls q.2 ∈ tables_1 ∧ Cond.privateMethod q.1 ∈ tables_1 ∧ Cond.instanceMethod q.1 ∈ tables_1
theorem lw_p0 : lw_okq (⟨"GestureBook$Lexicon", "setTrait", "(III)V"⟩, 3) := ⟨⟨by decide +kernel, by decide +kernel⟩, List.mem_of_getElem? (i := 33) (by decide +kernel), List.mem_of_getElem? (i := 315) (by decide +kernel), List.mem_of_getElem? (i := 316) (by decide +kernel)⟩
theorem lw_p1 : lw_okq (⟨"GestureBook$Lexicon", "appendAsked", "()I"⟩, 3) := ⟨⟨by decide +kernel, by decide +kernel⟩, List.mem_of_getElem? (i := 33) (by decide +kernel), List.mem_of_getElem? (i := 319) (by decide +kernel), List.mem_of_getElem? (i := 320) (by decide +kernel)⟩
theorem lw_p2 : lw_okq (⟨"GestureBook$Lexicon", "hasEqual", "(I)Z"⟩, 3) := ⟨⟨by decide +kernel, by decide +kernel⟩, List.mem_of_getElem? (i := 33) (by decide +kernel), List.mem_of_getElem? (i := 323) (by decide +kernel), List.mem_of_getElem? (i := 324) (by decide +kernel)⟩
theorem lw_p3 : lw_okq (⟨"GestureBook", "undoable", "(I)I"⟩, 10) := ⟨⟨by decide +kernel, by decide +kernel⟩, List.mem_of_getElem? (i := 19) (by decide +kernel), List.mem_of_getElem? (i := 335) (by decide +kernel), List.mem_of_getElem? (i := 336) (by decide +kernel)⟩
theorem lw_p4 : lw_okq (⟨"GestureBook", "counted", "(I)I"⟩, 10) := ⟨⟨by decide +kernel, by decide +kernel⟩, List.mem_of_getElem? (i := 19) (by decide +kernel), List.mem_of_getElem? (i := 346) (by decide +kernel), List.mem_of_getElem? (i := 347) (by decide +kernel)⟩
theorem lw_p5 : lw_okq (⟨"GestureBook$Sentence", "cell", "(II)I"⟩, 2) := ⟨⟨by decide +kernel, by decide +kernel⟩, List.mem_of_getElem? (i := 53) (by decide +kernel), List.mem_of_getElem? (i := 379) (by decide +kernel), List.mem_of_getElem? (i := 380) (by decide +kernel)⟩
theorem lw_p6 : lw_okq (⟨"GestureBook$Lexicon", "matchesAsked", "(I)Z"⟩, 3) := ⟨⟨by decide +kernel, by decide +kernel⟩, List.mem_of_getElem? (i := 33) (by decide +kernel), List.mem_of_getElem? (i := 460) (by decide +kernel), List.mem_of_getElem? (i := 461) (by decide +kernel)⟩
theorem lw_p7 : lw_okq (⟨"GestureBook$Clusters", "join", "(III)V"⟩, 2) := ⟨⟨by decide +kernel, by decide +kernel⟩, List.mem_of_getElem? (i := 221) (by decide +kernel), List.mem_of_getElem? (i := 502) (by decide +kernel), List.mem_of_getElem? (i := 503) (by decide +kernel)⟩
theorem lw_p8 : lw_okq (⟨"GestureBook$Sentence", "put", "(IIII)V"⟩, 2) := ⟨⟨by decide +kernel, by decide +kernel⟩, List.mem_of_getElem? (i := 53) (by decide +kernel), List.mem_of_getElem? (i := 566) (by decide +kernel), List.mem_of_getElem? (i := 567) (by decide +kernel)⟩
theorem lw_p9 : lw_okq (⟨"GestureBook$Sentence", "moveRows", "(III)V"⟩, 2) := ⟨⟨by decide +kernel, by decide +kernel⟩, List.mem_of_getElem? (i := 53) (by decide +kernel), List.mem_of_getElem? (i := 583) (by decide +kernel), List.mem_of_getElem? (i := 584) (by decide +kernel)⟩
theorem lw_p10 : lw_okq (⟨"GestureBook$Meaning", "interpretWord", "(LGestureBook$Sentence;II)V"⟩, 7) := ⟨⟨by decide +kernel, by decide +kernel⟩, List.mem_of_getElem? (i := 135) (by decide +kernel), List.mem_of_getElem? (i := 628) (by decide +kernel), List.mem_of_getElem? (i := 629) (by decide +kernel)⟩
theorem lw_p11 : lw_okq (⟨"GestureBook$Meaning", "setThing", "(II)V"⟩, 7) := ⟨⟨by decide +kernel, by decide +kernel⟩, List.mem_of_getElem? (i := 135) (by decide +kernel), List.mem_of_getElem? (i := 635) (by decide +kernel), List.mem_of_getElem? (i := 636) (by decide +kernel)⟩
theorem lw_p12 : lw_okq (⟨"GestureBook", "wordProperty", "(II)I"⟩, 10) := ⟨⟨by decide +kernel, by decide +kernel⟩, List.mem_of_getElem? (i := 19) (by decide +kernel), List.mem_of_getElem? (i := 646) (by decide +kernel), List.mem_of_getElem? (i := 647) (by decide +kernel)⟩
theorem lw_p13 : lw_okq (⟨"GestureBook", "examineSentence", "()V"⟩, 10) := ⟨⟨by decide +kernel, by decide +kernel⟩, List.mem_of_getElem? (i := 19) (by decide +kernel), List.mem_of_getElem? (i := 663) (by decide +kernel), List.mem_of_getElem? (i := 664) (by decide +kernel)⟩
theorem lw_p14 : lw_okq (⟨"GestureBook$Path", "add", "(I)V"⟩, 2) := ⟨⟨by decide +kernel, by decide +kernel⟩, List.mem_of_getElem? (i := 185) (by decide +kernel), List.mem_of_getElem? (i := 678) (by decide +kernel), List.mem_of_getElem? (i := 679) (by decide +kernel)⟩
theorem lw_p15 : lw_okq (⟨"GestureBook", "sentenceProperty", "(I)I"⟩, 10) := ⟨⟨by decide +kernel, by decide +kernel⟩, List.mem_of_getElem? (i := 19) (by decide +kernel), List.mem_of_getElem? (i := 684) (by decide +kernel), List.mem_of_getElem? (i := 685) (by decide +kernel)⟩
def lw_privs_1 : List (MethodName × Nat) := [(⟨"GestureBook$Lexicon", "setTrait", "(III)V"⟩, 3), (⟨"GestureBook$Lexicon", "appendAsked", "()I"⟩, 3), (⟨"GestureBook$Lexicon", "hasEqual", "(I)Z"⟩, 3), (⟨"GestureBook", "undoable", "(I)I"⟩, 10), (⟨"GestureBook", "counted", "(I)I"⟩, 10), (⟨"GestureBook$Sentence", "cell", "(II)I"⟩, 2), (⟨"GestureBook$Lexicon", "matchesAsked", "(I)Z"⟩, 3), (⟨"GestureBook$Clusters", "join", "(III)V"⟩, 2), (⟨"GestureBook$Sentence", "put", "(IIII)V"⟩, 2), (⟨"GestureBook$Sentence", "moveRows", "(III)V"⟩, 2), (⟨"GestureBook$Meaning", "interpretWord", "(LGestureBook$Sentence;II)V"⟩, 7), (⟨"GestureBook$Meaning", "setThing", "(II)V"⟩, 7), (⟨"GestureBook", "wordProperty", "(II)I"⟩, 10), (⟨"GestureBook", "examineSentence", "()V"⟩, 10), (⟨"GestureBook$Path", "add", "(I)V"⟩, 2), (⟨"GestureBook", "sentenceProperty", "(I)I"⟩, 10)]
theorem lw_r1 : ∀ q ∈ lw_privs_1, lw_okq q := List.forall_mem_cons.mpr ⟨lw_p0, List.forall_mem_cons.mpr ⟨lw_p1, List.forall_mem_cons.mpr ⟨lw_p2, List.forall_mem_cons.mpr ⟨lw_p3, List.forall_mem_cons.mpr ⟨lw_p4, List.forall_mem_cons.mpr ⟨lw_p5, List.forall_mem_cons.mpr ⟨lw_p6, List.forall_mem_cons.mpr ⟨lw_p7, List.forall_mem_cons.mpr ⟨lw_p8, List.forall_mem_cons.mpr ⟨lw_p9, List.forall_mem_cons.mpr ⟨lw_p10, List.forall_mem_cons.mpr ⟨lw_p11, List.forall_mem_cons.mpr ⟨lw_p12, List.forall_mem_cons.mpr ⟨lw_p13, List.forall_mem_cons.mpr ⟨lw_p14, List.forall_mem_cons.mpr ⟨lw_p15, fun _ h => absurd h List.not_mem_nil⟩⟩⟩⟩⟩⟩⟩⟩⟩⟩⟩⟩⟩⟩⟩⟩
theorem lw_p16 : lw_okq (⟨"GestureBook", "findBestArrangement", "()V"⟩, 10) := ⟨⟨by decide +kernel, by decide +kernel⟩, List.mem_of_getElem? (i := 19) (by decide +kernel), List.mem_of_getElem? (i := 714) (by decide +kernel), List.mem_of_getElem? (i := 715) (by decide +kernel)⟩
theorem lw_p17 : lw_okq (⟨"GestureBook$Arranger", "lengthTo", "(I)I"⟩, 4) := ⟨⟨by decide +kernel, by decide +kernel⟩, List.mem_of_getElem? (i := 200) (by decide +kernel), List.mem_of_getElem? (i := 730) (by decide +kernel), List.mem_of_getElem? (i := 731) (by decide +kernel)⟩
theorem lw_p18 : lw_okq (⟨"GestureBook$Script", "skipBlanks", "()V"⟩, 7) := ⟨⟨by decide +kernel, by decide +kernel⟩, List.mem_of_getElem? (i := 105) (by decide +kernel), List.mem_of_getElem? (i := 765) (by decide +kernel), List.mem_of_getElem? (i := 766) (by decide +kernel)⟩
theorem lw_p19 : lw_okq (⟨"GestureBook$Script", "parseOrder", "(I)Z"⟩, 7) := ⟨⟨by decide +kernel, by decide +kernel⟩, List.mem_of_getElem? (i := 105) (by decide +kernel), List.mem_of_getElem? (i := 769) (by decide +kernel), List.mem_of_getElem? (i := 770) (by decide +kernel)⟩
theorem lw_p20 : lw_okq (⟨"GestureBook$Script", "current", "()I"⟩, 7) := ⟨⟨by decide +kernel, by decide +kernel⟩, List.mem_of_getElem? (i := 105) (by decide +kernel), List.mem_of_getElem? (i := 773) (by decide +kernel), List.mem_of_getElem? (i := 774) (by decide +kernel)⟩
theorem lw_p21 : lw_okq (⟨"GestureBook$Script", "isAtDigit", "()Z"⟩, 7) := ⟨⟨by decide +kernel, by decide +kernel⟩, List.mem_of_getElem? (i := 105) (by decide +kernel), List.mem_of_getElem? (i := 780) (by decide +kernel), List.mem_of_getElem? (i := 781) (by decide +kernel)⟩
theorem lw_p22 : lw_okq (⟨"GestureBook$Script", "parseNumber", "(II)Z"⟩, 7) := ⟨⟨by decide +kernel, by decide +kernel⟩, List.mem_of_getElem? (i := 105) (by decide +kernel), List.mem_of_getElem? (i := 784) (by decide +kernel), List.mem_of_getElem? (i := 785) (by decide +kernel)⟩
theorem lw_p23 : lw_okq (⟨"GestureBook", "execute", "(I)I"⟩, 10) := ⟨⟨by decide +kernel, by decide +kernel⟩, List.mem_of_getElem? (i := 19) (by decide +kernel), List.mem_of_getElem? (i := 788) (by decide +kernel), List.mem_of_getElem? (i := 789) (by decide +kernel)⟩
theorem lw_p24 : lw_okq (⟨"GestureBook", "figure", "(I)I"⟩, 10) := ⟨⟨by decide +kernel, by decide +kernel⟩, List.mem_of_getElem? (i := 19) (by decide +kernel), List.mem_of_getElem? (i := 826) (by decide +kernel), List.mem_of_getElem? (i := 827) (by decide +kernel)⟩
theorem lw_p25 : lw_okq (⟨"GestureBook", "withSigns", "(J)J"⟩, 10) := ⟨⟨by decide +kernel, by decide +kernel⟩, List.mem_of_getElem? (i := 19) (by decide +kernel), List.mem_of_getElem? (i := 843) (by decide +kernel), List.mem_of_getElem? (i := 844) (by decide +kernel)⟩
theorem lw_p26 : lw_okq (⟨"GestureBook", "withWords", "(J)J"⟩, 10) := ⟨⟨by decide +kernel, by decide +kernel⟩, List.mem_of_getElem? (i := 19) (by decide +kernel), List.mem_of_getElem? (i := 847) (by decide +kernel), List.mem_of_getElem? (i := 848) (by decide +kernel)⟩
theorem lw_p27 : lw_okq (⟨"GestureBookModel", "canSign", "(IIIII)I"⟩, 13) := ⟨⟨by decide +kernel, by decide +kernel⟩, List.mem_of_getElem? (i := 851) (by decide +kernel), List.mem_of_getElem? (i := 901) (by decide +kernel), List.mem_of_getElem? (i := 902) (by decide +kernel)⟩
theorem lw_p28 : lw_okq (⟨"GestureBookModel", "signOf", "(IIIII)I"⟩, 13) := ⟨⟨by decide +kernel, by decide +kernel⟩, List.mem_of_getElem? (i := 851) (by decide +kernel), List.mem_of_getElem? (i := 916) (by decide +kernel), List.mem_of_getElem? (i := 917) (by decide +kernel)⟩
theorem lw_p29 : lw_okq (⟨"GestureBookModel", "part", "(II)I"⟩, 13) := ⟨⟨by decide +kernel, by decide +kernel⟩, List.mem_of_getElem? (i := 851) (by decide +kernel), List.mem_of_getElem? (i := 920) (by decide +kernel), List.mem_of_getElem? (i := 921) (by decide +kernel)⟩
theorem lw_p30 : lw_okq (⟨"GestureBookModel", "refuses", "(I)I"⟩, 13) := ⟨⟨by decide +kernel, by decide +kernel⟩, List.mem_of_getElem? (i := 851) (by decide +kernel), List.mem_of_getElem? (i := 924) (by decide +kernel), List.mem_of_getElem? (i := 925) (by decide +kernel)⟩
theorem lw_p31 : lw_okq (⟨"GestureBookModel", "minds", "()V"⟩, 13) := ⟨⟨by decide +kernel, by decide +kernel⟩, List.mem_of_getElem? (i := 851) (by decide +kernel), List.mem_of_getElem? (i := 928) (by decide +kernel), List.mem_of_getElem? (i := 929) (by decide +kernel)⟩
def lw_privs_2 : List (MethodName × Nat) := [(⟨"GestureBook", "findBestArrangement", "()V"⟩, 10), (⟨"GestureBook$Arranger", "lengthTo", "(I)I"⟩, 4), (⟨"GestureBook$Script", "skipBlanks", "()V"⟩, 7), (⟨"GestureBook$Script", "parseOrder", "(I)Z"⟩, 7), (⟨"GestureBook$Script", "current", "()I"⟩, 7), (⟨"GestureBook$Script", "isAtDigit", "()Z"⟩, 7), (⟨"GestureBook$Script", "parseNumber", "(II)Z"⟩, 7), (⟨"GestureBook", "execute", "(I)I"⟩, 10), (⟨"GestureBook", "figure", "(I)I"⟩, 10), (⟨"GestureBook", "withSigns", "(J)J"⟩, 10), (⟨"GestureBook", "withWords", "(J)J"⟩, 10), (⟨"GestureBookModel", "canSign", "(IIIII)I"⟩, 13), (⟨"GestureBookModel", "signOf", "(IIIII)I"⟩, 13), (⟨"GestureBookModel", "part", "(II)I"⟩, 13), (⟨"GestureBookModel", "refuses", "(I)I"⟩, 13), (⟨"GestureBookModel", "minds", "()V"⟩, 13)]
theorem lw_r2 : ∀ q ∈ lw_privs_2, lw_okq q := List.forall_mem_cons.mpr ⟨lw_p16, List.forall_mem_cons.mpr ⟨lw_p17, List.forall_mem_cons.mpr ⟨lw_p18, List.forall_mem_cons.mpr ⟨lw_p19, List.forall_mem_cons.mpr ⟨lw_p20, List.forall_mem_cons.mpr ⟨lw_p21, List.forall_mem_cons.mpr ⟨lw_p22, List.forall_mem_cons.mpr ⟨lw_p23, List.forall_mem_cons.mpr ⟨lw_p24, List.forall_mem_cons.mpr ⟨lw_p25, List.forall_mem_cons.mpr ⟨lw_p26, List.forall_mem_cons.mpr ⟨lw_p27, List.forall_mem_cons.mpr ⟨lw_p28, List.forall_mem_cons.mpr ⟨lw_p29, List.forall_mem_cons.mpr ⟨lw_p30, List.forall_mem_cons.mpr ⟨lw_p31, fun _ h => absurd h List.not_mem_nil⟩⟩⟩⟩⟩⟩⟩⟩⟩⟩⟩⟩⟩⟩⟩⟩
theorem lw_p32 : lw_okq (⟨"GestureBookModel", "copy", "(II)V"⟩, 13) := ⟨⟨by decide +kernel, by decide +kernel⟩, List.mem_of_getElem? (i := 851) (by decide +kernel), List.mem_of_getElem? (i := 932) (by decide +kernel), List.mem_of_getElem? (i := 933) (by decide +kernel)⟩
theorem lw_p33 : lw_okq (⟨"GestureBookModel", "adds", "(IIIII)I"⟩, 13) := ⟨⟨by decide +kernel, by decide +kernel⟩, List.mem_of_getElem? (i := 851) (by decide +kernel), List.mem_of_getElem? (i := 936) (by decide +kernel), List.mem_of_getElem? (i := 937) (by decide +kernel)⟩
theorem lw_p34 : lw_okq (⟨"GestureBookModel", "isSign", "(I)Z"⟩, 13) := ⟨⟨by decide +kernel, by decide +kernel⟩, List.mem_of_getElem? (i := 851) (by decide +kernel), List.mem_of_getElem? (i := 944) (by decide +kernel), List.mem_of_getElem? (i := 945) (by decide +kernel)⟩
theorem lw_p35 : lw_okq (⟨"GestureBookModel", "canDrop", "(I)I"⟩, 13) := ⟨⟨by decide +kernel, by decide +kernel⟩, List.mem_of_getElem? (i := 851) (by decide +kernel), List.mem_of_getElem? (i := 953) (by decide +kernel), List.mem_of_getElem? (i := 954) (by decide +kernel)⟩
theorem lw_p36 : lw_okq (⟨"GestureBookModel", "wordsWith", "(I)I"⟩, 13) := ⟨⟨by decide +kernel, by decide +kernel⟩, List.mem_of_getElem? (i := 851) (by decide +kernel), List.mem_of_getElem? (i := 957) (by decide +kernel), List.mem_of_getElem? (i := 958) (by decide +kernel)⟩
theorem lw_p37 : lw_okq (⟨"GestureBookModel", "goes", "(I)I"⟩, 13) := ⟨⟨by decide +kernel, by decide +kernel⟩, List.mem_of_getElem? (i := 851) (by decide +kernel), List.mem_of_getElem? (i := 961) (by decide +kernel), List.mem_of_getElem? (i := 962) (by decide +kernel)⟩
theorem lw_p38 : lw_okq (⟨"GestureBookModel", "next", "()I"⟩, 13) := ⟨⟨by decide +kernel, by decide +kernel⟩, List.mem_of_getElem? (i := 851) (by decide +kernel), List.mem_of_getElem? (i := 979) (by decide +kernel), List.mem_of_getElem? (i := 980) (by decide +kernel)⟩
theorem lw_p39 : lw_okq (⟨"GestureBookModel", "between", "(II)I"⟩, 13) := ⟨⟨by decide +kernel, by decide +kernel⟩, List.mem_of_getElem? (i := 851) (by decide +kernel), List.mem_of_getElem? (i := 996) (by decide +kernel), List.mem_of_getElem? (i := 997) (by decide +kernel)⟩
theorem lw_p40 : lw_okq (⟨"GestureBookModel", "apartOf", "(IIIII)I"⟩, 13) := ⟨⟨by decide +kernel, by decide +kernel⟩, List.mem_of_getElem? (i := 851) (by decide +kernel), List.mem_of_getElem? (i := 1000) (by decide +kernel), List.mem_of_getElem? (i := 1001) (by decide +kernel)⟩
theorem lw_p41 : lw_okq (⟨"GestureBookModel", "isSo", "(III)Z"⟩, 13) := ⟨⟨by decide +kernel, by decide +kernel⟩, List.mem_of_getElem? (i := 851) (by decide +kernel), List.mem_of_getElem? (i := 1021) (by decide +kernel), List.mem_of_getElem? (i := 1022) (by decide +kernel)⟩
theorem lw_p42 : lw_okq (⟨"GestureBookModel", "nearOf", "(II)I"⟩, 13) := ⟨⟨by decide +kernel, by decide +kernel⟩, List.mem_of_getElem? (i := 851) (by decide +kernel), List.mem_of_getElem? (i := 1030) (by decide +kernel), List.mem_of_getElem? (i := 1031) (by decide +kernel)⟩
theorem lw_p43 : lw_okq (⟨"GestureBookModel", "group", "(II)I"⟩, 13) := ⟨⟨by decide +kernel, by decide +kernel⟩, List.mem_of_getElem? (i := 851) (by decide +kernel), List.mem_of_getElem? (i := 1049) (by decide +kernel), List.mem_of_getElem? (i := 1050) (by decide +kernel)⟩
theorem lw_p44 : lw_okq (⟨"GestureBookModel", "twinsBy", "(I)I"⟩, 13) := ⟨⟨by decide +kernel, by decide +kernel⟩, List.mem_of_getElem? (i := 851) (by decide +kernel), List.mem_of_getElem? (i := 1057) (by decide +kernel), List.mem_of_getElem? (i := 1058) (by decide +kernel)⟩
theorem lw_p45 : lw_okq (⟨"GestureBookModel", "unlike", "(II)I"⟩, 13) := ⟨⟨by decide +kernel, by decide +kernel⟩, List.mem_of_getElem? (i := 851) (by decide +kernel), List.mem_of_getElem? (i := 1061) (by decide +kernel), List.mem_of_getElem? (i := 1062) (by decide +kernel)⟩
theorem lw_p46 : lw_okq (⟨"GestureBookModel", "leastEnough", "()I"⟩, 13) := ⟨⟨by decide +kernel, by decide +kernel⟩, List.mem_of_getElem? (i := 851) (by decide +kernel), List.mem_of_getElem? (i := 1070) (by decide +kernel), List.mem_of_getElem? (i := 1071) (by decide +kernel)⟩
theorem lw_p47 : lw_okq (⟨"GestureBookModel", "isEnough", "(I)Z"⟩, 13) := ⟨⟨by decide +kernel, by decide +kernel⟩, List.mem_of_getElem? (i := 851) (by decide +kernel), List.mem_of_getElem? (i := 1074) (by decide +kernel), List.mem_of_getElem? (i := 1075) (by decide +kernel)⟩
def lw_privs_3 : List (MethodName × Nat) := [(⟨"GestureBookModel", "copy", "(II)V"⟩, 13), (⟨"GestureBookModel", "adds", "(IIIII)I"⟩, 13), (⟨"GestureBookModel", "isSign", "(I)Z"⟩, 13), (⟨"GestureBookModel", "canDrop", "(I)I"⟩, 13), (⟨"GestureBookModel", "wordsWith", "(I)I"⟩, 13), (⟨"GestureBookModel", "goes", "(I)I"⟩, 13), (⟨"GestureBookModel", "next", "()I"⟩, 13), (⟨"GestureBookModel", "between", "(II)I"⟩, 13), (⟨"GestureBookModel", "apartOf", "(IIIII)I"⟩, 13), (⟨"GestureBookModel", "isSo", "(III)Z"⟩, 13), (⟨"GestureBookModel", "nearOf", "(II)I"⟩, 13), (⟨"GestureBookModel", "group", "(II)I"⟩, 13), (⟨"GestureBookModel", "twinsBy", "(I)I"⟩, 13), (⟨"GestureBookModel", "unlike", "(II)I"⟩, 13), (⟨"GestureBookModel", "leastEnough", "()I"⟩, 13), (⟨"GestureBookModel", "isEnough", "(I)Z"⟩, 13)]
theorem lw_r3 : ∀ q ∈ lw_privs_3, lw_okq q := List.forall_mem_cons.mpr ⟨lw_p32, List.forall_mem_cons.mpr ⟨lw_p33, List.forall_mem_cons.mpr ⟨lw_p34, List.forall_mem_cons.mpr ⟨lw_p35, List.forall_mem_cons.mpr ⟨lw_p36, List.forall_mem_cons.mpr ⟨lw_p37, List.forall_mem_cons.mpr ⟨lw_p38, List.forall_mem_cons.mpr ⟨lw_p39, List.forall_mem_cons.mpr ⟨lw_p40, List.forall_mem_cons.mpr ⟨lw_p41, List.forall_mem_cons.mpr ⟨lw_p42, List.forall_mem_cons.mpr ⟨lw_p43, List.forall_mem_cons.mpr ⟨lw_p44, List.forall_mem_cons.mpr ⟨lw_p45, List.forall_mem_cons.mpr ⟨lw_p46, List.forall_mem_cons.mpr ⟨lw_p47, fun _ h => absurd h List.not_mem_nil⟩⟩⟩⟩⟩⟩⟩⟩⟩⟩⟩⟩⟩⟩⟩⟩
theorem lw_p48 : lw_okq (⟨"GestureBookModel", "canSay", "(III)I"⟩, 13) := ⟨⟨by decide +kernel, by decide +kernel⟩, List.mem_of_getElem? (i := 851) (by decide +kernel), List.mem_of_getElem? (i := 1086) (by decide +kernel), List.mem_of_getElem? (i := 1087) (by decide +kernel)⟩
theorem lw_p49 : lw_okq (⟨"GestureBookModel", "says", "(III)I"⟩, 13) := ⟨⟨by decide +kernel, by decide +kernel⟩, List.mem_of_getElem? (i := 851) (by decide +kernel), List.mem_of_getElem? (i := 1090) (by decide +kernel), List.mem_of_getElem? (i := 1091) (by decide +kernel)⟩
theorem lw_p50 : lw_okq (⟨"GestureBookModel", "isWord", "(I)Z"⟩, 13) := ⟨⟨by decide +kernel, by decide +kernel⟩, List.mem_of_getElem? (i := 851) (by decide +kernel), List.mem_of_getElem? (i := 1098) (by decide +kernel), List.mem_of_getElem? (i := 1099) (by decide +kernel)⟩
theorem lw_p51 : lw_okq (⟨"GestureBookModel", "swaps", "(II)V"⟩, 13) := ⟨⟨by decide +kernel, by decide +kernel⟩, List.mem_of_getElem? (i := 851) (by decide +kernel), List.mem_of_getElem? (i := 1106) (by decide +kernel), List.mem_of_getElem? (i := 1107) (by decide +kernel)⟩
theorem lw_p52 : lw_okq (⟨"GestureBookModel", "said", "(II)I"⟩, 13) := ⟨⟨by decide +kernel, by decide +kernel⟩, List.mem_of_getElem? (i := 851) (by decide +kernel), List.mem_of_getElem? (i := 1110) (by decide +kernel), List.mem_of_getElem? (i := 1111) (by decide +kernel)⟩
theorem lw_p53 : lw_okq (⟨"GestureBookModel", "clearsAll", "()I"⟩, 13) := ⟨⟨by decide +kernel, by decide +kernel⟩, List.mem_of_getElem? (i := 851) (by decide +kernel), List.mem_of_getElem? (i := 1118) (by decide +kernel), List.mem_of_getElem? (i := 1119) (by decide +kernel)⟩
theorem lw_p54 : lw_okq (⟨"GestureBookModel", "wordIs", "(II)I"⟩, 13) := ⟨⟨by decide +kernel, by decide +kernel⟩, List.mem_of_getElem? (i := 851) (by decide +kernel), List.mem_of_getElem? (i := 1127) (by decide +kernel), List.mem_of_getElem? (i := 1128) (by decide +kernel)⟩
theorem lw_p55 : lw_okq (⟨"GestureBookModel", "sortOf", "(I)I"⟩, 13) := ⟨⟨by decide +kernel, by decide +kernel⟩, List.mem_of_getElem? (i := 851) (by decide +kernel), List.mem_of_getElem? (i := 1131) (by decide +kernel), List.mem_of_getElem? (i := 1132) (by decide +kernel)⟩
theorem lw_p56 : lw_okq (⟨"GestureBookModel", "clauseOf", "(I)I"⟩, 13) := ⟨⟨by decide +kernel, by decide +kernel⟩, List.mem_of_getElem? (i := 851) (by decide +kernel), List.mem_of_getElem? (i := 1135) (by decide +kernel), List.mem_of_getElem? (i := 1136) (by decide +kernel)⟩
theorem lw_p57 : lw_okq (⟨"GestureBookModel", "isVain", "(I)Z"⟩, 13) := ⟨⟨by decide +kernel, by decide +kernel⟩, List.mem_of_getElem? (i := 851) (by decide +kernel), List.mem_of_getElem? (i := 1139) (by decide +kernel), List.mem_of_getElem? (i := 1140) (by decide +kernel)⟩
theorem lw_p58 : lw_okq (⟨"GestureBookModel", "meant", "(II)I"⟩, 13) := ⟨⟨by decide +kernel, by decide +kernel⟩, List.mem_of_getElem? (i := 851) (by decide +kernel), List.mem_of_getElem? (i := 1143) (by decide +kernel), List.mem_of_getElem? (i := 1144) (by decide +kernel)⟩
theorem lw_p59 : lw_okq (⟨"GestureBookModel", "atSpot", "(II)I"⟩, 13) := ⟨⟨by decide +kernel, by decide +kernel⟩, List.mem_of_getElem? (i := 851) (by decide +kernel), List.mem_of_getElem? (i := 1147) (by decide +kernel), List.mem_of_getElem? (i := 1148) (by decide +kernel)⟩
theorem lw_p60 : lw_okq (⟨"GestureBookModel", "clauses", "()I"⟩, 13) := ⟨⟨by decide +kernel, by decide +kernel⟩, List.mem_of_getElem? (i := 851) (by decide +kernel), List.mem_of_getElem? (i := 1162) (by decide +kernel), List.mem_of_getElem? (i := 1163) (by decide +kernel)⟩
theorem lw_p61 : lw_okq (⟨"GestureBookModel", "vain", "()I"⟩, 13) := ⟨⟨by decide +kernel, by decide +kernel⟩, List.mem_of_getElem? (i := 851) (by decide +kernel), List.mem_of_getElem? (i := 1166) (by decide +kernel), List.mem_of_getElem? (i := 1167) (by decide +kernel)⟩
theorem lw_p62 : lw_okq (⟨"GestureBookModel", "swapsOfAll", "()I"⟩, 13) := ⟨⟨by decide +kernel, by decide +kernel⟩, List.mem_of_getElem? (i := 851) (by decide +kernel), List.mem_of_getElem? (i := 1170) (by decide +kernel), List.mem_of_getElem? (i := 1171) (by decide +kernel)⟩
theorem lw_p63 : lw_okq (⟨"GestureBookModel", "rank", "(I)I"⟩, 13) := ⟨⟨by decide +kernel, by decide +kernel⟩, List.mem_of_getElem? (i := 851) (by decide +kernel), List.mem_of_getElem? (i := 1174) (by decide +kernel), List.mem_of_getElem? (i := 1175) (by decide +kernel)⟩
def lw_privs_4 : List (MethodName × Nat) := [(⟨"GestureBookModel", "canSay", "(III)I"⟩, 13), (⟨"GestureBookModel", "says", "(III)I"⟩, 13), (⟨"GestureBookModel", "isWord", "(I)Z"⟩, 13), (⟨"GestureBookModel", "swaps", "(II)V"⟩, 13), (⟨"GestureBookModel", "said", "(II)I"⟩, 13), (⟨"GestureBookModel", "clearsAll", "()I"⟩, 13), (⟨"GestureBookModel", "wordIs", "(II)I"⟩, 13), (⟨"GestureBookModel", "sortOf", "(I)I"⟩, 13), (⟨"GestureBookModel", "clauseOf", "(I)I"⟩, 13), (⟨"GestureBookModel", "isVain", "(I)Z"⟩, 13), (⟨"GestureBookModel", "meant", "(II)I"⟩, 13), (⟨"GestureBookModel", "atSpot", "(II)I"⟩, 13), (⟨"GestureBookModel", "clauses", "()I"⟩, 13), (⟨"GestureBookModel", "vain", "()I"⟩, 13), (⟨"GestureBookModel", "swapsOfAll", "()I"⟩, 13), (⟨"GestureBookModel", "rank", "(I)I"⟩, 13)]
theorem lw_r4 : ∀ q ∈ lw_privs_4, lw_okq q := List.forall_mem_cons.mpr ⟨lw_p48, List.forall_mem_cons.mpr ⟨lw_p49, List.forall_mem_cons.mpr ⟨lw_p50, List.forall_mem_cons.mpr ⟨lw_p51, List.forall_mem_cons.mpr ⟨lw_p52, List.forall_mem_cons.mpr ⟨lw_p53, List.forall_mem_cons.mpr ⟨lw_p54, List.forall_mem_cons.mpr ⟨lw_p55, List.forall_mem_cons.mpr ⟨lw_p56, List.forall_mem_cons.mpr ⟨lw_p57, List.forall_mem_cons.mpr ⟨lw_p58, List.forall_mem_cons.mpr ⟨lw_p59, List.forall_mem_cons.mpr ⟨lw_p60, List.forall_mem_cons.mpr ⟨lw_p61, List.forall_mem_cons.mpr ⟨lw_p62, List.forall_mem_cons.mpr ⟨lw_p63, fun _ h => absurd h List.not_mem_nil⟩⟩⟩⟩⟩⟩⟩⟩⟩⟩⟩⟩⟩⟩⟩⟩
theorem lw_p64 : lw_okq (⟨"GestureBookModel", "moved", "()I"⟩, 13) := ⟨⟨by decide +kernel, by decide +kernel⟩, List.mem_of_getElem? (i := 851) (by decide +kernel), List.mem_of_getElem? (i := 1178) (by decide +kernel), List.mem_of_getElem? (i := 1179) (by decide +kernel)⟩
theorem lw_p65 : lw_okq (⟨"GestureBookModel", "ordered", "(I)I"⟩, 13) := ⟨⟨by decide +kernel, by decide +kernel⟩, List.mem_of_getElem? (i := 851) (by decide +kernel), List.mem_of_getElem? (i := 1182) (by decide +kernel), List.mem_of_getElem? (i := 1183) (by decide +kernel)⟩
theorem lw_p66 : lw_okq (⟨"GestureBookModel", "wayNow", "()I"⟩, 13) := ⟨⟨by decide +kernel, by decide +kernel⟩, List.mem_of_getElem? (i := 851) (by decide +kernel), List.mem_of_getElem? (i := 1186) (by decide +kernel), List.mem_of_getElem? (i := 1187) (by decide +kernel)⟩
theorem lw_p67 : lw_okq (⟨"GestureBookModel", "way", "()I"⟩, 13) := ⟨⟨by decide +kernel, by decide +kernel⟩, List.mem_of_getElem? (i := 851) (by decide +kernel), List.mem_of_getElem? (i := 1190) (by decide +kernel), List.mem_of_getElem? (i := 1191) (by decide +kernel)⟩
theorem lw_p68 : lw_okq (⟨"GestureBookModel", "spots", "()I"⟩, 13) := ⟨⟨by decide +kernel, by decide +kernel⟩, List.mem_of_getElem? (i := 851) (by decide +kernel), List.mem_of_getElem? (i := 1194) (by decide +kernel), List.mem_of_getElem? (i := 1195) (by decide +kernel)⟩
theorem lw_p69 : lw_okq (⟨"GestureBookModel", "spotAt", "(I)I"⟩, 13) := ⟨⟨by decide +kernel, by decide +kernel⟩, List.mem_of_getElem? (i := 851) (by decide +kernel), List.mem_of_getElem? (i := 1202) (by decide +kernel), List.mem_of_getElem? (i := 1203) (by decide +kernel)⟩
theorem lw_p70 : lw_okq (⟨"GestureBookModel", "bestWay", "()I"⟩, 13) := ⟨⟨by decide +kernel, by decide +kernel⟩, List.mem_of_getElem? (i := 851) (by decide +kernel), List.mem_of_getElem? (i := 1214) (by decide +kernel), List.mem_of_getElem? (i := 1215) (by decide +kernel)⟩
theorem lw_p71 : lw_okq (⟨"GestureBookModel", "tries", "(I)V"⟩, 13) := ⟨⟨by decide +kernel, by decide +kernel⟩, List.mem_of_getElem? (i := 851) (by decide +kernel), List.mem_of_getElem? (i := 1218) (by decide +kernel), List.mem_of_getElem? (i := 1219) (by decide +kernel)⟩
theorem lw_p72 : lw_okq (⟨"GestureBookModel", "readsAll", "()Z"⟩, 13) := ⟨⟨by decide +kernel, by decide +kernel⟩, List.mem_of_getElem? (i := 851) (by decide +kernel), List.mem_of_getElem? (i := 1239) (by decide +kernel), List.mem_of_getElem? (i := 1240) (by decide +kernel)⟩
theorem lw_p73 : lw_okq (⟨"GestureBookModel", "blanks", "()V"⟩, 13) := ⟨⟨by decide +kernel, by decide +kernel⟩, List.mem_of_getElem? (i := 851) (by decide +kernel), List.mem_of_getElem? (i := 1243) (by decide +kernel), List.mem_of_getElem? (i := 1244) (by decide +kernel)⟩
theorem lw_p74 : lw_okq (⟨"GestureBookModel", "byteHere", "()I"⟩, 13) := ⟨⟨by decide +kernel, by decide +kernel⟩, List.mem_of_getElem? (i := 851) (by decide +kernel), List.mem_of_getElem? (i := 1247) (by decide +kernel), List.mem_of_getElem? (i := 1248) (by decide +kernel)⟩
theorem lw_p75 : lw_okq (⟨"GestureBookModel", "readsOrder", "()Z"⟩, 13) := ⟨⟨by decide +kernel, by decide +kernel⟩, List.mem_of_getElem? (i := 851) (by decide +kernel), List.mem_of_getElem? (i := 1251) (by decide +kernel), List.mem_of_getElem? (i := 1252) (by decide +kernel)⟩
theorem lw_p76 : lw_okq (⟨"GestureBookModel", "isFigure", "()Z"⟩, 13) := ⟨⟨by decide +kernel, by decide +kernel⟩, List.mem_of_getElem? (i := 851) (by decide +kernel), List.mem_of_getElem? (i := 1258) (by decide +kernel), List.mem_of_getElem? (i := 1259) (by decide +kernel)⟩
theorem lw_p77 : lw_okq (⟨"GestureBookModel", "does", "(I)Z"⟩, 13) := ⟨⟨by decide +kernel, by decide +kernel⟩, List.mem_of_getElem? (i := 851) (by decide +kernel), List.mem_of_getElem? (i := 1264) (by decide +kernel), List.mem_of_getElem? (i := 1265) (by decide +kernel)⟩
theorem lw_p78 : lw_okq (⟨"GestureBookModel", "laysAll", "(I)Z"⟩, 13) := ⟨⟨by decide +kernel, by decide +kernel⟩, List.mem_of_getElem? (i := 851) (by decide +kernel), List.mem_of_getElem? (i := 1268) (by decide +kernel), List.mem_of_getElem? (i := 1269) (by decide +kernel)⟩
theorem lw_p79 : lw_okq (⟨"GestureBookModel", "tells", "(I)I"⟩, 13) := ⟨⟨by decide +kernel, by decide +kernel⟩, List.mem_of_getElem? (i := 851) (by decide +kernel), List.mem_of_getElem? (i := 1281) (by decide +kernel), List.mem_of_getElem? (i := 1282) (by decide +kernel)⟩
def lw_privs_5 : List (MethodName × Nat) := [(⟨"GestureBookModel", "moved", "()I"⟩, 13), (⟨"GestureBookModel", "ordered", "(I)I"⟩, 13), (⟨"GestureBookModel", "wayNow", "()I"⟩, 13), (⟨"GestureBookModel", "way", "()I"⟩, 13), (⟨"GestureBookModel", "spots", "()I"⟩, 13), (⟨"GestureBookModel", "spotAt", "(I)I"⟩, 13), (⟨"GestureBookModel", "bestWay", "()I"⟩, 13), (⟨"GestureBookModel", "tries", "(I)V"⟩, 13), (⟨"GestureBookModel", "readsAll", "()Z"⟩, 13), (⟨"GestureBookModel", "blanks", "()V"⟩, 13), (⟨"GestureBookModel", "byteHere", "()I"⟩, 13), (⟨"GestureBookModel", "readsOrder", "()Z"⟩, 13), (⟨"GestureBookModel", "isFigure", "()Z"⟩, 13), (⟨"GestureBookModel", "does", "(I)Z"⟩, 13), (⟨"GestureBookModel", "laysAll", "(I)Z"⟩, 13), (⟨"GestureBookModel", "tells", "(I)I"⟩, 13)]
theorem lw_r5 : ∀ q ∈ lw_privs_5, lw_okq q := List.forall_mem_cons.mpr ⟨lw_p64, List.forall_mem_cons.mpr ⟨lw_p65, List.forall_mem_cons.mpr ⟨lw_p66, List.forall_mem_cons.mpr ⟨lw_p67, List.forall_mem_cons.mpr ⟨lw_p68, List.forall_mem_cons.mpr ⟨lw_p69, List.forall_mem_cons.mpr ⟨lw_p70, List.forall_mem_cons.mpr ⟨lw_p71, List.forall_mem_cons.mpr ⟨lw_p72, List.forall_mem_cons.mpr ⟨lw_p73, List.forall_mem_cons.mpr ⟨lw_p74, List.forall_mem_cons.mpr ⟨lw_p75, List.forall_mem_cons.mpr ⟨lw_p76, List.forall_mem_cons.mpr ⟨lw_p77, List.forall_mem_cons.mpr ⟨lw_p78, List.forall_mem_cons.mpr ⟨lw_p79, fun _ h => absurd h List.not_mem_nil⟩⟩⟩⟩⟩⟩⟩⟩⟩⟩⟩⟩⟩⟩⟩⟩
def lw_privs : List (MethodName × Nat) := lw_privs_1 ++ (lw_privs_2 ++ (lw_privs_3 ++ (lw_privs_4 ++ (lw_privs_5))))
def lw_tbl : List Cond := k2_sels lw_privs ++ tables_1
theorem lw_privs_ok : ∀ q ∈ lw_privs, lw_okq q := by
  show ∀ q ∈ lw_privs_1 ++ (lw_privs_2 ++ (lw_privs_3 ++ (lw_privs_4 ++ (lw_privs_5)))), lw_okq q
  exact List.forall_mem_append.mpr ⟨lw_r1, List.forall_mem_append.mpr ⟨lw_r2, List.forall_mem_append.mpr ⟨lw_r3, List.forall_mem_append.mpr ⟨lw_r4, lw_r5⟩⟩⟩⟩
end
section
def RX0 : String := "GestureBook$Arranger"
def TX0 : u_T := fun k => match k with
  | 0 => ("GestureBook$Arranger", "steps", "[I", true)
  | 1 => ("GestureBook$Arranger", "trial", "[I", true)
  | 2 => ("GestureBook$Arranger", "found", "[I", true)
  | _ => ("GestureBook$Arranger", "least", "I", false)
def tyX0 : Nat → FieldType := fun k => match k with
  | 0 => .array .int
  | 1 => .array .int
  | 2 => .array .int
  | _ => .int
theorem nmX0 : ∀ a, a < 4 → ∀ b, b < 4 → a ≠ b → (TX0 a).2.1 ≠ (TX0 b).2.1 := by decide +kernel
theorem tyX0_ok : ∀ k, k < 4 → parseFieldDescriptor (TX0 k).2.2.1 = some (tyX0 k) := by decide +kernel
abbrev cX0_init : ByteArray := prog_2_method_1_code
def yX0_init : MethodName := ⟨RX0, "<init>", "()V"⟩
abbrev cX0_arrange : ByteArray := prog_2_method_2_code
def yX0_arrange : MethodName := ⟨RX0, "arrange", "(LGestureBook$Path;)V"⟩
abbrev cX0_placeFrom : ByteArray := prog_2_method_3_code
def yX0_placeFrom : MethodName := ⟨RX0, "placeFrom", "(LGestureBook$Arranger;III)V"⟩
abbrev cX0_lengthTo : ByteArray := prog_2_method_4_code
def yX0_lengthTo : MethodName := ⟨RX0, "lengthTo", "(I)I"⟩
def RX1 : String := "GestureBook$Clusters"
def TX1 : u_T := fun k => match k with
  | 0 => ("GestureBook$Clusters", "labels", "[I", true)
  | _ => ("GestureBook$Clusters", "sizes", "[I", true)
def tyX1 : Nat → FieldType := fun k => match k with
  | 0 => .array .int
  | _ => .array .int
theorem nmX1 : ∀ a, a < 2 → ∀ b, b < 2 → a ≠ b → (TX1 a).2.1 ≠ (TX1 b).2.1 := by decide +kernel
theorem tyX1_ok : ∀ k, k < 2 → parseFieldDescriptor (TX1 k).2.2.1 = some (tyX1 k) := by decide +kernel
abbrev cX1_init : ByteArray := prog_3_method_1_code
def yX1_init : MethodName := ⟨RX1, "<init>", "()V"⟩
abbrev cX1_find : ByteArray := prog_3_method_2_code
def yX1_find : MethodName := ⟨RX1, "find", "(LGestureBook$Lexicon;I)V"⟩
abbrev cX1_join : ByteArray := prog_3_method_3_code
def yX1_join : MethodName := ⟨RX1, "join", "(III)V"⟩
abbrev cX1_number : ByteArray := prog_3_method_4_code
def yX1_number : MethodName := ⟨RX1, "number", "()I"⟩
abbrev cX1_greatest : ByteArray := prog_3_method_5_code
def yX1_greatest : MethodName := ⟨RX1, "greatest", "()I"⟩
def RX2 : String := "GestureBook$Contrasts"
def TX2 : u_T := fun k => match k with
  | _ => ("GestureBook$Contrasts", "pairs", "[I", true)
def tyX2 : Nat → FieldType := fun k => match k with
  | _ => .array .int
theorem nmX2 : ∀ a, a < 1 → ∀ b, b < 1 → a ≠ b → (TX2 a).2.1 ≠ (TX2 b).2.1 := by decide +kernel
theorem tyX2_ok : ∀ k, k < 1 → parseFieldDescriptor (TX2 k).2.2.1 = some (tyX2 k) := by decide +kernel
abbrev cX2_init : ByteArray := prog_4_method_1_code
def yX2_init : MethodName := ⟨RX2, "<init>", "()V"⟩
abbrev cX2_compare : ByteArray := prog_4_method_2_code
def yX2_compare : MethodName := ⟨RX2, "compare", "(LGestureBook$Lexicon;)V"⟩
abbrev cX2_minimalPairs : ByteArray := prog_4_method_3_code
def yX2_minimalPairs : MethodName := ⟨RX2, "minimalPairs", "(I)I"⟩
abbrev cX2_isSufficient : ByteArray := prog_4_method_4_code
def yX2_isSufficient : MethodName := ⟨RX2, "isSufficient", "(I)Z"⟩
abbrev cX2_leastSufficient : ByteArray := prog_4_method_5_code
def yX2_leastSufficient : MethodName := ⟨RX2, "leastSufficient", "()I"⟩
def RX3 : String := "GestureBook$Lexicon"
def TX3 : u_T := fun k => match k with
  | 0 => ("GestureBook$Lexicon", "traits", "[I", true)
  | 1 => ("GestureBook$Lexicon", "weights", "[I", true)
  | _ => ("GestureBook$Lexicon", "count", "I", false)
def tyX3 : Nat → FieldType := fun k => match k with
  | 0 => .array .int
  | 1 => .array .int
  | _ => .int
theorem nmX3 : ∀ a, a < 3 → ∀ b, b < 3 → a ≠ b → (TX3 a).2.1 ≠ (TX3 b).2.1 := by decide +kernel
theorem tyX3_ok : ∀ k, k < 3 → parseFieldDescriptor (TX3 k).2.2.1 = some (tyX3 k) := by decide +kernel
abbrev cX3_init : ByteArray := prog_5_method_1_code
def yX3_init : MethodName := ⟨RX3, "<init>", "()V"⟩
abbrev cX3_copyFrom : ByteArray := prog_5_method_2_code
def yX3_copyFrom : MethodName := ⟨RX3, "copyFrom", "(LGestureBook$Lexicon;)V"⟩
abbrev cX3_holds : ByteArray := prog_5_method_3_code
def yX3_holds : MethodName := ⟨RX3, "holds", "(I)Z"⟩
abbrev cX3_trait : ByteArray := prog_5_method_4_code
def yX3_trait : MethodName := ⟨RX3, "trait", "(II)I"⟩
abbrev cX3_setTrait : ByteArray := prog_5_method_5_code
def yX3_setTrait : MethodName := ⟨RX3, "setTrait", "(III)V"⟩
abbrev cX3_weightOf : ByteArray := prog_5_method_6_code
def yX3_weightOf : MethodName := ⟨RX3, "weightOf", "(I)I"⟩
abbrev cX3_setWeight : ByteArray := prog_5_method_7_code
def yX3_setWeight : MethodName := ⟨RX3, "setWeight", "(II)I"⟩
abbrev cX3_ask : ByteArray := prog_5_method_8_code
def yX3_ask : MethodName := ⟨RX3, "ask", "(IIII)V"⟩
abbrev cX3_addSign : ByteArray := prog_5_method_9_code
def yX3_addSign : MethodName := ⟨RX3, "addSign", "(IIIII)I"⟩
abbrev cX3_appendAsked : ByteArray := prog_5_method_10_code
def yX3_appendAsked : MethodName := ⟨RX3, "appendAsked", "()I"⟩
abbrev cX3_hasEqual : ByteArray := prog_5_method_11_code
def yX3_hasEqual : MethodName := ⟨RX3, "hasEqual", "(I)Z"⟩
abbrev cX3_change : ByteArray := prog_5_method_12_code
def yX3_change : MethodName := ⟨RX3, "change", "(III)I"⟩
abbrev cX3_remove : ByteArray := prog_5_method_13_code
def yX3_remove : MethodName := ⟨RX3, "remove", "(I)I"⟩
abbrev cX3_addRandom : ByteArray := prog_5_method_14_code
def yX3_addRandom : MethodName := ⟨RX3, "addRandom", "(II)I"⟩
abbrev cX3_countOfSort : ByteArray := prog_5_method_15_code
def yX3_countOfSort : MethodName := ⟨RX3, "countOfSort", "(I)I"⟩
abbrev cX3_differingParts : ByteArray := prog_5_method_16_code
def yX3_differingParts : MethodName := ⟨RX3, "differingParts", "(II)I"⟩
abbrev cX3_gap : ByteArray := prog_5_method_17_code
def yX3_gap : MethodName := ⟨RX3, "gap", "(III)I"⟩
abbrev cX3_faceGap : ByteArray := prog_5_method_18_code
def yX3_faceGap : MethodName := ⟨RX3, "faceGap", "(II)I"⟩
abbrev cX3_distance : ByteArray := prog_5_method_19_code
def yX3_distance : MethodName := ⟨RX3, "distance", "(II)I"⟩
abbrev cX3_matches : ByteArray := prog_5_method_20_code
def yX3_matches : MethodName := ⟨RX3, "matches", "()I"⟩
abbrev cX3_matchesAsked : ByteArray := prog_5_method_21_code
def yX3_matchesAsked : MethodName := ⟨RX3, "matchesAsked", "(I)Z"⟩
abbrev cX3_neighbours : ByteArray := prog_5_method_22_code
def yX3_neighbours : MethodName := ⟨RX3, "neighbours", "(II)I"⟩
abbrev cX3_closest : ByteArray := prog_5_method_23_code
def yX3_closest : MethodName := ⟨RX3, "closest", "()I"⟩
abbrev cX3_extremePair : ByteArray := prog_5_method_24_code
def yX3_extremePair : MethodName := ⟨RX3, "extremePair", "(Z)I"⟩
def RX4 : String := "GestureBook$Meaning"
def TX4 : u_T := fun k => match k with
  | 0 => ("GestureBook$Meaning", "things", "[I", true)
  | 1 => ("GestureBook$Meaning", "clause", "[I", true)
  | 2 => ("GestureBook$Meaning", "vain", "[Z", true)
  | 3 => ("GestureBook$Meaning", "first", "[I", true)
  | 4 => ("GestureBook$Meaning", "second", "[I", true)
  | 5 => ("GestureBook$Meaning", "clauses", "I", false)
  | _ => ("GestureBook$Meaning", "vainWords", "I", false)
def tyX4 : Nat → FieldType := fun k => match k with
  | 0 => .array .int
  | 1 => .array .int
  | 2 => .array .boolean
  | 3 => .array .int
  | 4 => .array .int
  | 5 => .int
  | _ => .int
theorem nmX4 : ∀ a, a < 7 → ∀ b, b < 7 → a ≠ b → (TX4 a).2.1 ≠ (TX4 b).2.1 := by decide +kernel
theorem tyX4_ok : ∀ k, k < 7 → parseFieldDescriptor (TX4 k).2.2.1 = some (tyX4 k) := by decide +kernel
abbrev cX4_init : ByteArray := prog_6_method_1_code
def yX4_init : MethodName := ⟨RX4, "<init>", "()V"⟩
abbrev cX4_interpret : ByteArray := prog_6_method_2_code
def yX4_interpret : MethodName := ⟨RX4, "interpret", "(LGestureBook$State;I)V"⟩
abbrev cX4_interpretWord : ByteArray := prog_6_method_3_code
def yX4_interpretWord : MethodName := ⟨RX4, "interpretWord", "(LGestureBook$Sentence;II)V"⟩
abbrev cX4_thingAt : ByteArray := prog_6_method_4_code
def yX4_thingAt : MethodName := ⟨RX4, "thingAt", "(I)I"⟩
abbrev cX4_setThing : ByteArray := prog_6_method_5_code
def yX4_setThing : MethodName := ⟨RX4, "setThing", "(II)V"⟩
def RX5 : String := "GestureBook$Past"
def TX5 : u_T := fun k => match k with
  | 0 => ("GestureBook$Past", "slots", "[LGestureBook$State;", true)
  | 1 => ("GestureBook$Past", "next", "I", false)
  | _ => ("GestureBook$Past", "count", "I", false)
def tyX5 : Nat → FieldType := fun k => match k with
  | 0 => .array (.object "GestureBook$State")
  | 1 => .int
  | _ => .int
theorem nmX5 : ∀ a, a < 3 → ∀ b, b < 3 → a ≠ b → (TX5 a).2.1 ≠ (TX5 b).2.1 := by decide +kernel
theorem tyX5_ok : ∀ k, k < 3 → parseFieldDescriptor (TX5 k).2.2.1 = some (tyX5 k) := by decide +kernel
abbrev cX5_init : ByteArray := prog_7_method_1_code
def yX5_init : MethodName := ⟨RX5, "<init>", "()V"⟩
abbrev cX5_stage : ByteArray := prog_7_method_2_code
def yX5_stage : MethodName := ⟨RX5, "stage", "(LGestureBook$State;)V"⟩
abbrev cX5_unstage : ByteArray := prog_7_method_3_code
def yX5_unstage : MethodName := ⟨RX5, "unstage", "(LGestureBook$State;)V"⟩
abbrev cX5_keepStaged : ByteArray := prog_7_method_4_code
def yX5_keepStaged : MethodName := ⟨RX5, "keepStaged", "()V"⟩
abbrev cX5_restore : ByteArray := prog_7_method_5_code
def yX5_restore : MethodName := ⟨RX5, "restore", "(LGestureBook$State;)I"⟩
def RX6 : String := "GestureBook$Path"
def TX6 : u_T := fun k => match k with
  | 0 => ("GestureBook$Path", "spots", "[I", true)
  | _ => ("GestureBook$Path", "count", "I", false)
def tyX6 : Nat → FieldType := fun k => match k with
  | 0 => .array .int
  | _ => .int
theorem nmX6 : ∀ a, a < 2 → ∀ b, b < 2 → a ≠ b → (TX6 a).2.1 ≠ (TX6 b).2.1 := by decide +kernel
theorem tyX6_ok : ∀ k, k < 2 → parseFieldDescriptor (TX6 k).2.2.1 = some (tyX6 k) := by decide +kernel
abbrev cX6_init : ByteArray := prog_8_method_1_code
def yX6_init : MethodName := ⟨RX6, "<init>", "()V"⟩
abbrev cX6_follow : ByteArray := prog_8_method_2_code
def yX6_follow : MethodName := ⟨RX6, "follow", "(LGestureBook$Sentence;)V"⟩
abbrev cX6_add : ByteArray := prog_8_method_3_code
def yX6_add : MethodName := ⟨RX6, "add", "(I)V"⟩
abbrev cX6_lengthWith : ByteArray := prog_8_method_4_code
def yX6_lengthWith : MethodName := ⟨RX6, "lengthWith", "([I)I"⟩
abbrev cX6_setOfSpots : ByteArray := prog_8_method_5_code
def yX6_setOfSpots : MethodName := ⟨RX6, "setOfSpots", "()I"⟩
def RX7 : String := "GestureBook$Script"
def TX7 : u_T := fun k => match k with
  | 0 => ("GestureBook$Script", "bytes", "[I", true)
  | 1 => ("GestureBook$Script", "length", "I", false)
  | 2 => ("GestureBook$Script", "place", "I", false)
  | 3 => ("GestureBook$Script", "letters", "[I", true)
  | 4 => ("GestureBook$Script", "counts", "[I", true)
  | 5 => ("GestureBook$Script", "values", "[I", true)
  | _ => ("GestureBook$Script", "orders", "I", false)
def tyX7 : Nat → FieldType := fun k => match k with
  | 0 => .array .int
  | 1 => .int
  | 2 => .int
  | 3 => .array .int
  | 4 => .array .int
  | 5 => .array .int
  | _ => .int
theorem nmX7 : ∀ a, a < 7 → ∀ b, b < 7 → a ≠ b → (TX7 a).2.1 ≠ (TX7 b).2.1 := by decide +kernel
theorem tyX7_ok : ∀ k, k < 7 → parseFieldDescriptor (TX7 k).2.2.1 = some (tyX7 k) := by decide +kernel
abbrev cX7_init : ByteArray := prog_9_method_1_code
def yX7_init : MethodName := ⟨RX7, "<init>", "()V"⟩
abbrev cX7_append : ByteArray := prog_9_method_2_code
def yX7_append : MethodName := ⟨RX7, "append", "(I)I"⟩
abbrev cX7_empty : ByteArray := prog_9_method_3_code
def yX7_empty : MethodName := ⟨RX7, "empty", "()I"⟩
abbrev cX7_letter : ByteArray := prog_9_method_4_code
def yX7_letter : MethodName := ⟨RX7, "letter", "(I)I"⟩
abbrev cX7_numbers : ByteArray := prog_9_method_5_code
def yX7_numbers : MethodName := ⟨RX7, "numbers", "(I)I"⟩
abbrev cX7_number : ByteArray := prog_9_method_6_code
def yX7_number : MethodName := ⟨RX7, "number", "(II)I"⟩
abbrev cX7_parse : ByteArray := prog_9_method_7_code
def yX7_parse : MethodName := ⟨RX7, "parse", "()I"⟩
abbrev cX7_skipBlanks : ByteArray := prog_9_method_8_code
def yX7_skipBlanks : MethodName := ⟨RX7, "skipBlanks", "()V"⟩
abbrev cX7_current : ByteArray := prog_9_method_9_code
def yX7_current : MethodName := ⟨RX7, "current", "()I"⟩
abbrev cX7_isAtDigit : ByteArray := prog_9_method_10_code
def yX7_isAtDigit : MethodName := ⟨RX7, "isAtDigit", "()Z"⟩
abbrev cX7_parseOrder : ByteArray := prog_9_method_11_code
def yX7_parseOrder : MethodName := ⟨RX7, "parseOrder", "(I)Z"⟩
abbrev cX7_parseNumber : ByteArray := prog_9_method_12_code
def yX7_parseNumber : MethodName := ⟨RX7, "parseNumber", "(II)Z"⟩
abbrev cX7_mostNumbers : ByteArray := prog_9_method_13_code
def yX7_mostNumbers : MethodName := ⟨RX7, "mostNumbers", "(I)I"⟩
def RX8 : String := "GestureBook$Sentence"
def TX8 : u_T := fun k => match k with
  | 0 => ("GestureBook$Sentence", "cells", "[I", true)
  | _ => ("GestureBook$Sentence", "count", "I", false)
def tyX8 : Nat → FieldType := fun k => match k with
  | 0 => .array .int
  | _ => .int
theorem nmX8 : ∀ a, a < 2 → ∀ b, b < 2 → a ≠ b → (TX8 a).2.1 ≠ (TX8 b).2.1 := by decide +kernel
theorem tyX8_ok : ∀ k, k < 2 → parseFieldDescriptor (TX8 k).2.2.1 = some (tyX8 k) := by decide +kernel
abbrev cX8_init : ByteArray := prog_10_method_1_code
def yX8_init : MethodName := ⟨RX8, "<init>", "()V"⟩
abbrev cX8_copyFrom : ByteArray := prog_10_method_2_code
def yX8_copyFrom : MethodName := ⟨RX8, "copyFrom", "(LGestureBook$Sentence;)V"⟩
abbrev cX8_holds : ByteArray := prog_10_method_3_code
def yX8_holds : MethodName := ⟨RX8, "holds", "(I)Z"⟩
abbrev cX8_signIn : ByteArray := prog_10_method_4_code
def yX8_signIn : MethodName := ⟨RX8, "signIn", "(I)I"⟩
abbrev cX8_from : ByteArray := prog_10_method_5_code
def yX8_from : MethodName := ⟨RX8, "from", "(I)I"⟩
abbrev cX8_to : ByteArray := prog_10_method_6_code
def yX8_to : MethodName := ⟨RX8, "to", "(I)I"⟩
abbrev cX8_cell : ByteArray := prog_10_method_7_code
def yX8_cell : MethodName := ⟨RX8, "cell", "(II)I"⟩
abbrev cX8_countOf : ByteArray := prog_10_method_8_code
def yX8_countOf : MethodName := ⟨RX8, "countOf", "(I)I"⟩
abbrev cX8_renumberAbove : ByteArray := prog_10_method_9_code
def yX8_renumberAbove : MethodName := ⟨RX8, "renumberAbove", "(I)V"⟩
abbrev cX8_append : ByteArray := prog_10_method_10_code
def yX8_append : MethodName := ⟨RX8, "append", "(III)I"⟩
abbrev cX8_put : ByteArray := prog_10_method_11_code
def yX8_put : MethodName := ⟨RX8, "put", "(IIII)V"⟩
abbrev cX8_remove : ByteArray := prog_10_method_12_code
def yX8_remove : MethodName := ⟨RX8, "remove", "(I)I"⟩
abbrev cX8_move : ByteArray := prog_10_method_13_code
def yX8_move : MethodName := ⟨RX8, "move", "(II)I"⟩
abbrev cX8_moveRows : ByteArray := prog_10_method_14_code
def yX8_moveRows : MethodName := ⟨RX8, "moveRows", "(III)V"⟩
abbrev cX8_removeAll : ByteArray := prog_10_method_15_code
def yX8_removeAll : MethodName := ⟨RX8, "removeAll", "()I"⟩
def RX9 : String := "GestureBook$State"
def TX9 : u_T := fun k => match k with
  | 0 => ("GestureBook$State", "lexicon", "LGestureBook$Lexicon;", true)
  | 1 => ("GestureBook$State", "sentence", "LGestureBook$Sentence;", true)
  | _ => ("GestureBook$State", "positions", "[I", true)
def tyX9 : Nat → FieldType := fun k => match k with
  | 0 => .object "GestureBook$Lexicon"
  | 1 => .object "GestureBook$Sentence"
  | _ => .array .int
theorem nmX9 : ∀ a, a < 3 → ∀ b, b < 3 → a ≠ b → (TX9 a).2.1 ≠ (TX9 b).2.1 := by decide +kernel
theorem tyX9_ok : ∀ k, k < 3 → parseFieldDescriptor (TX9 k).2.2.1 = some (tyX9 k) := by decide +kernel
abbrev cX9_init : ByteArray := prog_11_method_1_code
def yX9_init : MethodName := ⟨RX9, "<init>", "()V"⟩
abbrev cX9_copyFrom : ByteArray := prog_11_method_2_code
def yX9_copyFrom : MethodName := ⟨RX9, "copyFrom", "(LGestureBook$State;)V"⟩
abbrev cX9_signProperty : ByteArray := prog_11_method_3_code
def yX9_signProperty : MethodName := ⟨RX9, "signProperty", "(II)I"⟩
abbrev cX9_sortOfWord : ByteArray := prog_11_method_4_code
def yX9_sortOfWord : MethodName := ⟨RX9, "sortOfWord", "(I)I"⟩
abbrev cX9_removeSign : ByteArray := prog_11_method_5_code
def yX9_removeSign : MethodName := ⟨RX9, "removeSign", "(I)I"⟩
abbrev cX9_addWord : ByteArray := prog_11_method_6_code
def yX9_addWord : MethodName := ⟨RX9, "addWord", "(III)I"⟩
abbrev cX9_layOne : ByteArray := prog_11_method_7_code
def yX9_layOne : MethodName := ⟨RX9, "layOne", "(II)I"⟩
abbrev cX9_layAll : ByteArray := prog_11_method_8_code
def yX9_layAll : MethodName := ⟨RX9, "layAll", "(LGestureBook$Script;I)I"⟩
def RX10 : String := "GestureBook$WordOrder"
def TX10 : u_T := fun k => match k with
  | 0 => ("GestureBook$WordOrder", "swaps", "I", false)
  | _ => ("GestureBook$WordOrder", "moves", "I", false)
def tyX10 : Nat → FieldType := fun k => match k with
  | 0 => .int
  | _ => .int
theorem nmX10 : ∀ a, a < 2 → ∀ b, b < 2 → a ≠ b → (TX10 a).2.1 ≠ (TX10 b).2.1 := by decide +kernel
theorem tyX10_ok : ∀ k, k < 2 → parseFieldDescriptor (TX10 k).2.2.1 = some (tyX10 k) := by decide +kernel
abbrev cX10_init : ByteArray := prog_12_method_1_code
def yX10_init : MethodName := ⟨RX10, "<init>", "()V"⟩
abbrev cX10_check : ByteArray := prog_12_method_2_code
def yX10_check : MethodName := ⟨RX10, "check", "(LGestureBook$State;)V"⟩
def RX11 : String := "GestureBook"
def TX11 : u_T := fun k => match k with
  | 0 => ("GestureBook", "now", "LGestureBook$State;", true)
  | 1 => ("GestureBook", "past", "LGestureBook$Past;", true)
  | 2 => ("GestureBook", "script", "LGestureBook$Script;", true)
  | 3 => ("GestureBook", "meaning", "LGestureBook$Meaning;", true)
  | 4 => ("GestureBook", "wordOrder", "LGestureBook$WordOrder;", true)
  | 5 => ("GestureBook", "path", "LGestureBook$Path;", true)
  | 6 => ("GestureBook", "arranger", "LGestureBook$Arranger;", true)
  | 7 => ("GestureBook", "clusters", "LGestureBook$Clusters;", true)
  | 8 => ("GestureBook", "contrasts", "LGestureBook$Contrasts;", true)
  | _ => ("GestureBook", "errors", "[I", true)
def tyX11 : Nat → FieldType := fun k => match k with
  | 0 => .object "GestureBook$State"
  | 1 => .object "GestureBook$Past"
  | 2 => .object "GestureBook$Script"
  | 3 => .object "GestureBook$Meaning"
  | 4 => .object "GestureBook$WordOrder"
  | 5 => .object "GestureBook$Path"
  | 6 => .object "GestureBook$Arranger"
  | 7 => .object "GestureBook$Clusters"
  | 8 => .object "GestureBook$Contrasts"
  | _ => .array .int
theorem nmX11 : ∀ a, a < 10 → ∀ b, b < 10 → a ≠ b → (TX11 a).2.1 ≠ (TX11 b).2.1 := by decide +kernel
theorem tyX11_ok : ∀ k, k < 10 → parseFieldDescriptor (TX11 k).2.2.1 = some (tyX11 k) := by decide +kernel
abbrev cX11_init : ByteArray := prog_1_method_1_code
def yX11_init : MethodName := ⟨RX11, "<init>", "()V"⟩
abbrev cX11_sign : ByteArray := prog_1_method_2_code
def yX11_sign : MethodName := ⟨RX11, "sign", "(IIIII)I"⟩
abbrev cX11_becomes : ByteArray := prog_1_method_3_code
def yX11_becomes : MethodName := ⟨RX11, "becomes", "(III)I"⟩
abbrev cX11_drops : ByteArray := prog_1_method_4_code
def yX11_drops : MethodName := ⟨RX11, "drops", "(I)I"⟩
abbrev cX11_weight : ByteArray := prog_1_method_5_code
def yX11_weight : MethodName := ⟨RX11, "weight", "(II)I"⟩
abbrev cX11_draws : ByteArray := prog_1_method_6_code
def yX11_draws : MethodName := ⟨RX11, "draws", "(II)I"⟩
abbrev cX11_of : ByteArray := prog_1_method_7_code
def yX11_of : MethodName := ⟨RX11, "of", "(II)I"⟩
abbrev cX11_apart : ByteArray := prog_1_method_8_code
def yX11_apart : MethodName := ⟨RX11, "apart", "(III)I"⟩
abbrev cX11_look : ByteArray := prog_1_method_9_code
def yX11_look : MethodName := ⟨RX11, "look", "(IIII)I"⟩
abbrev cX11_near : ByteArray := prog_1_method_10_code
def yX11_near : MethodName := ⟨RX11, "near", "(II)I"⟩
abbrev cX11_nearest : ByteArray := prog_1_method_11_code
def yX11_nearest : MethodName := ⟨RX11, "nearest", "(IIII)I"⟩
abbrev cX11_sorts : ByteArray := prog_1_method_12_code
def yX11_sorts : MethodName := ⟨RX11, "sorts", "(I)I"⟩
abbrev cX11_groups : ByteArray := prog_1_method_13_code
def yX11_groups : MethodName := ⟨RX11, "groups", "(II)I"⟩
abbrev cX11_twins : ByteArray := prog_1_method_14_code
def yX11_twins : MethodName := ⟨RX11, "twins", "(I)I"⟩
abbrev cX11_enough : ByteArray := prog_1_method_15_code
def yX11_enough : MethodName := ⟨RX11, "enough", "(I)I"⟩
abbrev cX11_span : ByteArray := prog_1_method_16_code
def yX11_span : MethodName := ⟨RX11, "span", "(I)I"⟩
abbrev cX11_word : ByteArray := prog_1_method_17_code
def yX11_word : MethodName := ⟨RX11, "word", "(III)I"⟩
abbrev cX11_cuts : ByteArray := prog_1_method_18_code
def yX11_cuts : MethodName := ⟨RX11, "cuts", "(I)I"⟩
abbrev cX11_shifts : ByteArray := prog_1_method_19_code
def yX11_shifts : MethodName := ⟨RX11, "shifts", "(II)I"⟩
abbrev cX11_clears : ByteArray := prog_1_method_20_code
def yX11_clears : MethodName := ⟨RX11, "clears", "()I"⟩
abbrev cX11_wordOf : ByteArray := prog_1_method_21_code
def yX11_wordOf : MethodName := ⟨RX11, "wordOf", "(II)I"⟩
abbrev cX11_at : ByteArray := prog_1_method_22_code
def yX11_at : MethodName := ⟨RX11, "at", "(II)I"⟩
abbrev cX11_all : ByteArray := prog_1_method_23_code
def yX11_all : MethodName := ⟨RX11, "all", "(I)I"⟩
abbrev cX11_lays : ByteArray := prog_1_method_24_code
def yX11_lays : MethodName := ⟨RX11, "lays", "(II)I"⟩
abbrev cX11_lay : ByteArray := prog_1_method_25_code
def yX11_lay : MethodName := ⟨RX11, "lay", "(I)I"⟩
abbrev cX11_best : ByteArray := prog_1_method_26_code
def yX11_best : MethodName := ⟨RX11, "best", "(I)I"⟩
abbrev cX11_settles : ByteArray := prog_1_method_27_code
def yX11_settles : MethodName := ⟨RX11, "settles", "()I"⟩
abbrev cX11_type : ByteArray := prog_1_method_28_code
def yX11_type : MethodName := ⟨RX11, "type", "(I)I"⟩
abbrev cX11_clear : ByteArray := prog_1_method_29_code
def yX11_clear : MethodName := ⟨RX11, "clear", "()I"⟩
abbrev cX11_reads : ByteArray := prog_1_method_30_code
def yX11_reads : MethodName := ⟨RX11, "reads", "()I"⟩
abbrev cX11_back : ByteArray := prog_1_method_31_code
def yX11_back : MethodName := ⟨RX11, "back", "()I"⟩
abbrev cX11_told : ByteArray := prog_1_method_32_code
def yX11_told : MethodName := ⟨RX11, "told", "(I)I"⟩
abbrev cX11_digest : ByteArray := prog_1_method_33_code
def yX11_digest : MethodName := ⟨RX11, "digest", "()J"⟩
abbrev cX11_isWithin : ByteArray := prog_1_method_34_code
def yX11_isWithin : MethodName := ⟨RX11, "isWithin", "(III)Z"⟩
abbrev cX11_areWithin : ByteArray := prog_1_method_35_code
def yX11_areWithin : MethodName := ⟨RX11, "areWithin", "(IIIII)Z"⟩
abbrev cX11_isSpot : ByteArray := prog_1_method_36_code
def yX11_isSpot : MethodName := ⟨RX11, "isSpot", "(I)Z"⟩
abbrev cX11_counted : ByteArray := prog_1_method_37_code
def yX11_counted : MethodName := ⟨RX11, "counted", "(I)I"⟩
abbrev cX11_undoable : ByteArray := prog_1_method_38_code
def yX11_undoable : MethodName := ⟨RX11, "undoable", "(I)I"⟩
abbrev cX11_execute : ByteArray := prog_1_method_39_code
def yX11_execute : MethodName := ⟨RX11, "execute", "(I)I"⟩
abbrev cX11_examineSentence : ByteArray := prog_1_method_40_code
def yX11_examineSentence : MethodName := ⟨RX11, "examineSentence", "()V"⟩
abbrev cX11_findBestArrangement : ByteArray := prog_1_method_41_code
def yX11_findBestArrangement : MethodName := ⟨RX11, "findBestArrangement", "()V"⟩
abbrev cX11_wordProperty : ByteArray := prog_1_method_42_code
def yX11_wordProperty : MethodName := ⟨RX11, "wordProperty", "(II)I"⟩
abbrev cX11_sentenceProperty : ByteArray := prog_1_method_43_code
def yX11_sentenceProperty : MethodName := ⟨RX11, "sentenceProperty", "(I)I"⟩
abbrev cX11_figure : ByteArray := prog_1_method_44_code
def yX11_figure : MethodName := ⟨RX11, "figure", "(I)I"⟩
abbrev cX11_mixed : ByteArray := prog_1_method_45_code
def yX11_mixed : MethodName := ⟨RX11, "mixed", "(JI)J"⟩
abbrev cX11_withSigns : ByteArray := prog_1_method_46_code
def yX11_withSigns : MethodName := ⟨RX11, "withSigns", "(J)J"⟩
abbrev cX11_withWords : ByteArray := prog_1_method_47_code
def yX11_withWords : MethodName := ⟨RX11, "withWords", "(J)J"⟩
def RX12 : String := "GestureBookModel"
def TX12 : u_T := fun k => match k with
  | 0 => ("GestureBookModel", "w", "[I", true)
  | 1 => ("GestureBookModel", "states", "I", false)
  | 2 => ("GestureBookModel", "refused", "[I", true)
  | 3 => ("GestureBookModel", "text", "[I", true)
  | 4 => ("GestureBookModel", "letters", "I", false)
  | 5 => ("GestureBookModel", "drawn", "J", false)
  | 6 => ("GestureBookModel", "lie", "[I", true)
  | 7 => ("GestureBookModel", "bestLie", "[I", true)
  | 8 => ("GestureBookModel", "here", "I", false)
  | 9 => ("GestureBookModel", "orders", "I", false)
  | 10 => ("GestureBookModel", "orderIs", "[I", true)
  | 11 => ("GestureBookModel", "orderMany", "[I", true)
  | _ => ("GestureBookModel", "orderNumber", "[I", true)
def tyX12 : Nat → FieldType := fun k => match k with
  | 0 => .array .int
  | 1 => .int
  | 2 => .array .int
  | 3 => .array .int
  | 4 => .int
  | 5 => .long
  | 6 => .array .int
  | 7 => .array .int
  | 8 => .int
  | 9 => .int
  | 10 => .array .int
  | 11 => .array .int
  | _ => .array .int
theorem nmX12 : ∀ a, a < 13 → ∀ b, b < 13 → a ≠ b → (TX12 a).2.1 ≠ (TX12 b).2.1 := by decide +kernel
theorem tyX12_ok : ∀ k, k < 13 → parseFieldDescriptor (TX12 k).2.2.1 = some (tyX12 k) := by decide +kernel
abbrev cX12_init : ByteArray := prog_14_method_1_code
def yX12_init : MethodName := ⟨RX12, "<init>", "()V"⟩
abbrev cX12_in : ByteArray := prog_14_method_3_code
def yX12_in : MethodName := ⟨RX12, "in", "(JJJ)Z"⟩
abbrev cX12_has : ByteArray := prog_14_method_4_code
def yX12_has : MethodName := ⟨RX12, "has", "(II)Z"⟩
abbrev cX12_off : ByteArray := prog_14_method_5_code
def yX12_off : MethodName := ⟨RX12, "off", "(II)I"⟩
abbrev cX12_refuses : ByteArray := prog_14_method_6_code
def yX12_refuses : MethodName := ⟨RX12, "refuses", "(I)I"⟩
abbrev cX12_copy : ByteArray := prog_14_method_7_code
def yX12_copy : MethodName := ⟨RX12, "copy", "(II)V"⟩
abbrev cX12_minds : ByteArray := prog_14_method_8_code
def yX12_minds : MethodName := ⟨RX12, "minds", "()V"⟩
abbrev cX12_isSign : ByteArray := prog_14_method_9_code
def yX12_isSign : MethodName := ⟨RX12, "isSign", "(I)Z"⟩
abbrev cX12_part : ByteArray := prog_14_method_10_code
def yX12_part : MethodName := ⟨RX12, "part", "(II)I"⟩
abbrev cX12_isPart : ByteArray := prog_14_method_11_code
def yX12_isPart : MethodName := ⟨RX12, "isPart", "(I)Z"⟩
abbrev cX12_areParts : ByteArray := prog_14_method_12_code
def yX12_areParts : MethodName := ⟨RX12, "areParts", "(IIII)Z"⟩
abbrev cX12_signOf : ByteArray := prog_14_method_13_code
def yX12_signOf : MethodName := ⟨RX12, "signOf", "(IIIII)I"⟩
abbrev cX12_canSign : ByteArray := prog_14_method_14_code
def yX12_canSign : MethodName := ⟨RX12, "canSign", "(IIIII)I"⟩
abbrev cX12_adds : ByteArray := prog_14_method_15_code
def yX12_adds : MethodName := ⟨RX12, "adds", "(IIIII)I"⟩
abbrev cX12_sign : ByteArray := prog_14_method_16_code
def yX12_sign : MethodName := ⟨RX12, "sign", "(IIIII)I"⟩
abbrev cX12_becomes : ByteArray := prog_14_method_17_code
def yX12_becomes : MethodName := ⟨RX12, "becomes", "(III)I"⟩
abbrev cX12_wordsWith : ByteArray := prog_14_method_18_code
def yX12_wordsWith : MethodName := ⟨RX12, "wordsWith", "(I)I"⟩
abbrev cX12_canDrop : ByteArray := prog_14_method_19_code
def yX12_canDrop : MethodName := ⟨RX12, "canDrop", "(I)I"⟩
abbrev cX12_goes : ByteArray := prog_14_method_20_code
def yX12_goes : MethodName := ⟨RX12, "goes", "(I)I"⟩
abbrev cX12_drops : ByteArray := prog_14_method_21_code
def yX12_drops : MethodName := ⟨RX12, "drops", "(I)I"⟩
abbrev cX12_isWeight : ByteArray := prog_14_method_22_code
def yX12_isWeight : MethodName := ⟨RX12, "isWeight", "(II)Z"⟩
abbrev cX12_weight : ByteArray := prog_14_method_23_code
def yX12_weight : MethodName := ⟨RX12, "weight", "(II)I"⟩
abbrev cX12_next : ByteArray := prog_14_method_24_code
def yX12_next : MethodName := ⟨RX12, "next", "()I"⟩
abbrev cX12_draws : ByteArray := prog_14_method_25_code
def yX12_draws : MethodName := ⟨RX12, "draws", "(II)I"⟩
abbrev cX12_of : ByteArray := prog_14_method_26_code
def yX12_of : MethodName := ⟨RX12, "of", "(II)I"⟩
abbrev cX12_ones : ByteArray := prog_14_method_27_code
def yX12_ones : MethodName := ⟨RX12, "ones", "(I)I"⟩
abbrev cX12_apartBy : ByteArray := prog_14_method_28_code
def yX12_apartBy : MethodName := ⟨RX12, "apartBy", "(III)I"⟩
abbrev cX12_apartOf : ByteArray := prog_14_method_29_code
def yX12_apartOf : MethodName := ⟨RX12, "apartOf", "(IIIII)I"⟩
abbrev cX12_between : ByteArray := prog_14_method_30_code
def yX12_between : MethodName := ⟨RX12, "between", "(II)I"⟩
abbrev cX12_apart : ByteArray := prog_14_method_31_code
def yX12_apart : MethodName := ⟨RX12, "apart", "(III)I"⟩
abbrev cX12_isAsked : ByteArray := prog_14_method_32_code
def yX12_isAsked : MethodName := ⟨RX12, "isAsked", "(I)Z"⟩
abbrev cX12_isSo : ByteArray := prog_14_method_33_code
def yX12_isSo : MethodName := ⟨RX12, "isSo", "(III)Z"⟩
abbrev cX12_look : ByteArray := prog_14_method_34_code
def yX12_look : MethodName := ⟨RX12, "look", "(IIII)I"⟩
abbrev cX12_nearOf : ByteArray := prog_14_method_35_code
def yX12_nearOf : MethodName := ⟨RX12, "nearOf", "(II)I"⟩
abbrev cX12_near : ByteArray := prog_14_method_36_code
def yX12_near : MethodName := ⟨RX12, "near", "(II)I"⟩
abbrev cX12_nearest : ByteArray := prog_14_method_37_code
def yX12_nearest : MethodName := ⟨RX12, "nearest", "(IIII)I"⟩
abbrev cX12_sorts : ByteArray := prog_14_method_38_code
def yX12_sorts : MethodName := ⟨RX12, "sorts", "(I)I"⟩
abbrev cX12_group : ByteArray := prog_14_method_39_code
def yX12_group : MethodName := ⟨RX12, "group", "(II)I"⟩
abbrev cX12_groups : ByteArray := prog_14_method_40_code
def yX12_groups : MethodName := ⟨RX12, "groups", "(II)I"⟩
abbrev cX12_unlike : ByteArray := prog_14_method_41_code
def yX12_unlike : MethodName := ⟨RX12, "unlike", "(II)I"⟩
abbrev cX12_twinsBy : ByteArray := prog_14_method_42_code
def yX12_twinsBy : MethodName := ⟨RX12, "twinsBy", "(I)I"⟩
abbrev cX12_twins : ByteArray := prog_14_method_43_code
def yX12_twins : MethodName := ⟨RX12, "twins", "(I)I"⟩
abbrev cX12_isEnough : ByteArray := prog_14_method_44_code
def yX12_isEnough : MethodName := ⟨RX12, "isEnough", "(I)Z"⟩
abbrev cX12_leastEnough : ByteArray := prog_14_method_45_code
def yX12_leastEnough : MethodName := ⟨RX12, "leastEnough", "()I"⟩
abbrev cX12_enough : ByteArray := prog_14_method_46_code
def yX12_enough : MethodName := ⟨RX12, "enough", "(I)I"⟩
abbrev cX12_span : ByteArray := prog_14_method_47_code
def yX12_span : MethodName := ⟨RX12, "span", "(I)I"⟩
abbrev cX12_isWord : ByteArray := prog_14_method_48_code
def yX12_isWord : MethodName := ⟨RX12, "isWord", "(I)Z"⟩
abbrev cX12_said : ByteArray := prog_14_method_49_code
def yX12_said : MethodName := ⟨RX12, "said", "(II)I"⟩
abbrev cX12_sortOf : ByteArray := prog_14_method_50_code
def yX12_sortOf : MethodName := ⟨RX12, "sortOf", "(I)I"⟩
abbrev cX12_isSpot : ByteArray := prog_14_method_51_code
def yX12_isSpot : MethodName := ⟨RX12, "isSpot", "(I)Z"⟩
abbrev cX12_canSay : ByteArray := prog_14_method_52_code
def yX12_canSay : MethodName := ⟨RX12, "canSay", "(III)I"⟩
abbrev cX12_says : ByteArray := prog_14_method_53_code
def yX12_says : MethodName := ⟨RX12, "says", "(III)I"⟩
abbrev cX12_word : ByteArray := prog_14_method_54_code
def yX12_word : MethodName := ⟨RX12, "word", "(III)I"⟩
abbrev cX12_cuts : ByteArray := prog_14_method_55_code
def yX12_cuts : MethodName := ⟨RX12, "cuts", "(I)I"⟩
abbrev cX12_swaps : ByteArray := prog_14_method_56_code
def yX12_swaps : MethodName := ⟨RX12, "swaps", "(II)V"⟩
abbrev cX12_shifts : ByteArray := prog_14_method_57_code
def yX12_shifts : MethodName := ⟨RX12, "shifts", "(II)I"⟩
abbrev cX12_clearsAll : ByteArray := prog_14_method_58_code
def yX12_clearsAll : MethodName := ⟨RX12, "clearsAll", "()I"⟩
abbrev cX12_clears : ByteArray := prog_14_method_59_code
def yX12_clears : MethodName := ⟨RX12, "clears", "()I"⟩
abbrev cX12_atSpot : ByteArray := prog_14_method_60_code
def yX12_atSpot : MethodName := ⟨RX12, "atSpot", "(II)I"⟩
abbrev cX12_meant : ByteArray := prog_14_method_61_code
def yX12_meant : MethodName := ⟨RX12, "meant", "(II)I"⟩
abbrev cX12_isVain : ByteArray := prog_14_method_62_code
def yX12_isVain : MethodName := ⟨RX12, "isVain", "(I)Z"⟩
abbrev cX12_clauseOf : ByteArray := prog_14_method_63_code
def yX12_clauseOf : MethodName := ⟨RX12, "clauseOf", "(I)I"⟩
abbrev cX12_wordIs : ByteArray := prog_14_method_64_code
def yX12_wordIs : MethodName := ⟨RX12, "wordIs", "(II)I"⟩
abbrev cX12_wordOf : ByteArray := prog_14_method_65_code
def yX12_wordOf : MethodName := ⟨RX12, "wordOf", "(II)I"⟩
abbrev cX12_at : ByteArray := prog_14_method_66_code
def yX12_at : MethodName := ⟨RX12, "at", "(II)I"⟩
abbrev cX12_rank : ByteArray := prog_14_method_67_code
def yX12_rank : MethodName := ⟨RX12, "rank", "(I)I"⟩
abbrev cX12_swapsOfAll : ByteArray := prog_14_method_68_code
def yX12_swapsOfAll : MethodName := ⟨RX12, "swapsOfAll", "()I"⟩
abbrev cX12_ordered : ByteArray := prog_14_method_69_code
def yX12_ordered : MethodName := ⟨RX12, "ordered", "(I)I"⟩
abbrev cX12_clauses : ByteArray := prog_14_method_70_code
def yX12_clauses : MethodName := ⟨RX12, "clauses", "()I"⟩
abbrev cX12_moved : ByteArray := prog_14_method_71_code
def yX12_moved : MethodName := ⟨RX12, "moved", "()I"⟩
abbrev cX12_vain : ByteArray := prog_14_method_72_code
def yX12_vain : MethodName := ⟨RX12, "vain", "()I"⟩
abbrev cX12_spots : ByteArray := prog_14_method_73_code
def yX12_spots : MethodName := ⟨RX12, "spots", "()I"⟩
abbrev cX12_way : ByteArray := prog_14_method_74_code
def yX12_way : MethodName := ⟨RX12, "way", "()I"⟩
abbrev cX12_wayNow : ByteArray := prog_14_method_75_code
def yX12_wayNow : MethodName := ⟨RX12, "wayNow", "()I"⟩
abbrev cX12_all : ByteArray := prog_14_method_76_code
def yX12_all : MethodName := ⟨RX12, "all", "(I)I"⟩
abbrev cX12_spotAt : ByteArray := prog_14_method_77_code
def yX12_spotAt : MethodName := ⟨RX12, "spotAt", "(I)I"⟩
abbrev cX12_lays : ByteArray := prog_14_method_78_code
def yX12_lays : MethodName := ⟨RX12, "lays", "(II)I"⟩
abbrev cX12_lay : ByteArray := prog_14_method_79_code
def yX12_lay : MethodName := ⟨RX12, "lay", "(I)I"⟩
abbrev cX12_tries : ByteArray := prog_14_method_80_code
def yX12_tries : MethodName := ⟨RX12, "tries", "(I)V"⟩
abbrev cX12_bestWay : ByteArray := prog_14_method_81_code
def yX12_bestWay : MethodName := ⟨RX12, "bestWay", "()I"⟩
abbrev cX12_best : ByteArray := prog_14_method_82_code
def yX12_best : MethodName := ⟨RX12, "best", "(I)I"⟩
abbrev cX12_settles : ByteArray := prog_14_method_83_code
def yX12_settles : MethodName := ⟨RX12, "settles", "()I"⟩
abbrev cX12_type : ByteArray := prog_14_method_84_code
def yX12_type : MethodName := ⟨RX12, "type", "(I)I"⟩
abbrev cX12_clear : ByteArray := prog_14_method_85_code
def yX12_clear : MethodName := ⟨RX12, "clear", "()I"⟩
abbrev cX12_byteHere : ByteArray := prog_14_method_86_code
def yX12_byteHere : MethodName := ⟨RX12, "byteHere", "()I"⟩
abbrev cX12_blanks : ByteArray := prog_14_method_87_code
def yX12_blanks : MethodName := ⟨RX12, "blanks", "()V"⟩
abbrev cX12_least : ByteArray := prog_14_method_88_code
def yX12_least : MethodName := ⟨RX12, "least", "(I)I"⟩
abbrev cX12_isFigure : ByteArray := prog_14_method_89_code
def yX12_isFigure : MethodName := ⟨RX12, "isFigure", "()Z"⟩
abbrev cX12_readsOrder : ByteArray := prog_14_method_90_code
def yX12_readsOrder : MethodName := ⟨RX12, "readsOrder", "()Z"⟩
abbrev cX12_readsAll : ByteArray := prog_14_method_91_code
def yX12_readsAll : MethodName := ⟨RX12, "readsAll", "()Z"⟩
abbrev cX12_laysAll : ByteArray := prog_14_method_92_code
def yX12_laysAll : MethodName := ⟨RX12, "laysAll", "(I)Z"⟩
abbrev cX12_does : ByteArray := prog_14_method_93_code
def yX12_does : MethodName := ⟨RX12, "does", "(I)Z"⟩
abbrev cX12_reads : ByteArray := prog_14_method_94_code
def yX12_reads : MethodName := ⟨RX12, "reads", "()I"⟩
abbrev cX12_back : ByteArray := prog_14_method_95_code
def yX12_back : MethodName := ⟨RX12, "back", "()I"⟩
abbrev cX12_tells : ByteArray := prog_14_method_96_code
def yX12_tells : MethodName := ⟨RX12, "tells", "(I)I"⟩
abbrev cX12_told : ByteArray := prog_14_method_97_code
def yX12_told : MethodName := ⟨RX12, "told", "(I)I"⟩
abbrev cX12_digest : ByteArray := prog_14_method_98_code
def yX12_digest : MethodName := ⟨RX12, "digest", "()J"⟩
def RJ6 : String := "java/lang/Integer"
abbrev cJ6_bitCount_0f7a4 : ByteArray := prog_15_method_49_code
def yJ6_bitCount_0f7a4 : MethodName := ⟨RJ6, "bitCount", "(I)I"⟩
def RJ9 : String := "java/lang/Math"
abbrev cJ9_abs_0f7a4 : ByteArray := prog_16_method_59_code
def yJ9_abs_0f7a4 : MethodName := ⟨RJ9, "abs", "(I)I"⟩
abbrev cJ9_max_7cf53 : ByteArray := prog_16_method_65_code
def yJ9_max_7cf53 : MethodName := ⟨RJ9, "max", "(II)I"⟩
abbrev cJ9_min_7cf53 : ByteArray := prog_16_method_69_code
def yJ9_min_7cf53 : MethodName := ⟨RJ9, "min", "(II)I"⟩
def RJ10 : String := "java/lang/System"
def RJ7 : String := "java/util/Arrays"
abbrev cJ7_fill_53178 : ByteArray := prog_18_method_103_code
def yJ7_fill_53178 : MethodName := ⟨RJ7, "fill", "([II)V"⟩
def RL : String := "GestureBookLaw"
abbrev cL_law : ByteArray := code
def yL_law : MethodName := ⟨RL, "law", "([I)Z"⟩
abbrev classes : List vw_C := [(RX0, TX0, 4), (RX1, TX1, 2), (RX2, TX2, 1), (RX3, TX3, 3), (RX4, TX4, 7), (RX5, TX5, 3), (RX6, TX6, 2), (RX7, TX7, 7), (RX8, TX8, 2), (RX9, TX9, 3), (RX10, TX10, 2), (RX11, TX11, 10), (RX12, TX12, 13)]
def inX0_init : List (Nat × Instr × Nat) := [(0, .aload_n 0, 1), (1, .invokespecial 3, 3), (4, .aload_n 0, 1), (5, .bipush 36, 2), (7, .newarray .int, 2), (9, .putfield 9, 3), (12, .aload_n 0, 1), (13, .bipush 6, 2), (15, .newarray .int, 2), (17, .putfield 15, 3), (20, .aload_n 0, 1), (21, .bipush 6, 2), (23, .newarray .int, 2), (25, .putfield 18, 3), (28, .aload_n 0, 1), (29, .iconst 0, 1), (30, .putfield 21, 3), (33, .return_, 1)]
def inX0_arrange : List (Nat × Instr × Nat) := [(0, .aload_n 0, 1), (1, .getfield 9, 3), (4, .iconst 0, 1), (5, .invokestatic 25, 3), (8, .iconst 1, 1), (9, .istore_n 2, 1), (10, .iload_n 2, 1), (11, .aload_n 1, 1), (12, .getfield 31, 3), (15, .if_icmp .ge 51, 3), (18, .aload_n 1, 1), (19, .getfield 36, 3), (22, .iload_n 2, 1), (23, .iconst 1, 1), (24, .isub, 1), (25, .iaload, 1), (26, .istore_n 3, 1), (27, .aload_n 1, 1), (28, .getfield 36, 3), (31, .iload_n 2, 1), (32, .iaload, 1), (33, .istore 4, 2), (35, .aload_n 0, 1), (36, .getfield 9, 3), (39, .iload_n 3, 1), (40, .iload 4, 2), (42, .invokestatic 39, 3), (45, .bipush 6, 2), (47, .imul, 1), (48, .iload_n 3, 1), (49, .iload 4, 2), (51, .invokestatic 45, 3), (54, .iadd, 1), (55, .dup2, 1), (56, .iaload, 1), (57, .iconst 1, 1), (58, .iadd, 1), (59, .iastore, 1), (60, .iinc 2 1, 3), (63, .goto (-53), 3), (66, .aload_n 0, 1), (67, .ldc 50, 2), (69, .putfield 21, 3), (72, .aload_n 0, 1), (73, .iconst 0, 1), (74, .iconst 0, 1), (75, .iconst 0, 1), (76, .invokestatic 51, 3), (79, .return_, 1)]
def inX0_placeFrom : List (Nat × Instr × Nat) := [(0, .iload_n 3, 1), (1, .aload_n 0, 1), (2, .getfield 21, 3), (5, .if_icmp .lt 4, 3), (8, .return_, 1), (9, .iload_n 1, 1), (10, .bipush 6, 2), (12, .if_icmp .lt 24, 3), (15, .aload_n 0, 1), (16, .iload_n 3, 1), (17, .putfield 21, 3), (20, .aload_n 0, 1), (21, .getfield 15, 3), (24, .iconst 0, 1), (25, .aload_n 0, 1), (26, .getfield 18, 3), (29, .iconst 0, 1), (30, .bipush 6, 2), (32, .invokestatic 55, 3), (35, .return_, 1), (36, .iconst 0, 1), (37, .istore 4, 2), (39, .iload 4, 2), (41, .bipush 6, 2), (43, .if_icmp .ge 46, 3), (46, .iload_n 2, 1), (47, .iload 4, 2), (49, .ishr, 1), (50, .iconst 1, 1), (51, .iand, 1), (52, .ifCond .ne 31, 3), (55, .aload_n 0, 1), (56, .getfield 15, 3), (59, .iload_n 1, 1), (60, .iload 4, 2), (62, .iastore, 1), (63, .aload_n 0, 1), (64, .iload_n 1, 1), (65, .iconst 1, 1), (66, .iadd, 1), (67, .iload_n 2, 1), (68, .iconst 1, 1), (69, .iload 4, 2), (71, .ishl, 1), (72, .ior, 1), (73, .iload_n 3, 1), (74, .aload_n 0, 1), (75, .iload_n 1, 1), (76, .invokevirtual 61, 3), (79, .iadd, 1), (80, .invokestatic 51, 3), (83, .iinc 4 1, 3), (86, .goto (-47), 3), (89, .return_, 1)]
def inX0_lengthTo : List (Nat × Instr × Nat) := [(0, .iconst 0, 1), (1, .istore_n 2, 1), (2, .iconst 0, 1), (3, .istore_n 3, 1), (4, .iload_n 3, 1), (5, .iload_n 1, 1), (6, .if_icmp .ge 40, 3), (9, .iload_n 2, 1), (10, .aload_n 0, 1), (11, .getfield 9, 3), (14, .iload_n 1, 1), (15, .bipush 6, 2), (17, .imul, 1), (18, .iload_n 3, 1), (19, .iadd, 1), (20, .iaload, 1), (21, .aload_n 0, 1), (22, .getfield 15, 3), (25, .iload_n 1, 1), (26, .iaload, 1), (27, .aload_n 0, 1), (28, .getfield 15, 3), (31, .iload_n 3, 1), (32, .iaload, 1), (33, .isub, 1), (34, .invokestatic 65, 3), (37, .imul, 1), (38, .iadd, 1), (39, .istore_n 2, 1), (40, .iinc 3 1, 3), (43, .goto (-39), 3), (46, .iload_n 2, 1), (47, .ireturn, 1)]
def inX1_init : List (Nat × Instr × Nat) := [(0, .aload_n 0, 1), (1, .invokespecial 3, 3), (4, .aload_n 0, 1), (5, .bipush 16, 2), (7, .newarray .int, 2), (9, .putfield 9, 3), (12, .aload_n 0, 1), (13, .bipush 16, 2), (15, .newarray .int, 2), (17, .putfield 15, 3), (20, .return_, 1)]
def inX1_find : List (Nat × Instr × Nat) := [(0, .aload_n 0, 1), (1, .getfield 15, 3), (4, .iconst 0, 1), (5, .invokestatic 18, 3), (8, .iconst 0, 1), (9, .istore_n 3, 1), (10, .iload_n 3, 1), (11, .aload_n 1, 1), (12, .getfield 24, 3), (15, .if_icmp .ge 16, 3), (18, .aload_n 0, 1), (19, .getfield 9, 3), (22, .iload_n 3, 1), (23, .iload_n 3, 1), (24, .iastore, 1), (25, .iinc 3 1, 3), (28, .goto (-18), 3), (31, .iconst 0, 1), (32, .istore_n 3, 1), (33, .iload_n 3, 1), (34, .aload_n 1, 1), (35, .getfield 24, 3), (38, .if_icmp .ge 77, 3), (41, .iload_n 3, 1), (42, .iconst 1, 1), (43, .iadd, 1), (44, .istore 4, 2), (46, .iload 4, 2), (48, .aload_n 1, 1), (49, .getfield 24, 3), (52, .if_icmp .ge 57, 3), (55, .aload_n 0, 1), (56, .getfield 9, 3), (59, .iload_n 3, 1), (60, .iaload, 1), (61, .aload_n 0, 1), (62, .getfield 9, 3), (65, .iload 4, 2), (67, .iaload, 1), (68, .if_icmp .eq 35, 3), (71, .aload_n 1, 1), (72, .iload_n 3, 1), (73, .iload 4, 2), (75, .invokevirtual 30, 3), (78, .iload_n 2, 1), (79, .if_icmp .gt 24, 3), (82, .aload_n 0, 1), (83, .aload_n 0, 1), (84, .getfield 9, 3), (87, .iload_n 3, 1), (88, .iaload, 1), (89, .aload_n 0, 1), (90, .getfield 9, 3), (93, .iload 4, 2), (95, .iaload, 1), (96, .aload_n 1, 1), (97, .getfield 24, 3), (100, .invokevirtual 34, 3), (103, .iinc 4 1, 3), (106, .goto (-60), 3), (109, .iinc 3 1, 3), (112, .goto (-79), 3), (115, .iconst 0, 1), (116, .istore_n 3, 1), (117, .iload_n 3, 1), (118, .aload_n 1, 1), (119, .getfield 24, 3), (122, .if_icmp .ge 24, 3), (125, .aload_n 0, 1), (126, .getfield 15, 3), (129, .aload_n 0, 1), (130, .getfield 9, 3), (133, .iload_n 3, 1), (134, .iaload, 1), (135, .dup2, 1), (136, .iaload, 1), (137, .iconst 1, 1), (138, .iadd, 1), (139, .iastore, 1), (140, .iinc 3 1, 3), (143, .goto (-26), 3), (146, .return_, 1)]
def inX1_join : List (Nat × Instr × Nat) := [(0, .iconst 0, 1), (1, .istore 4, 2), (3, .iload 4, 2), (5, .iload_n 3, 1), (6, .if_icmp .ge 28, 3), (9, .aload_n 0, 1), (10, .getfield 9, 3), (13, .iload 4, 2), (15, .iaload, 1), (16, .iload_n 2, 1), (17, .if_icmp .ne 11, 3), (20, .aload_n 0, 1), (21, .getfield 9, 3), (24, .iload 4, 2), (26, .iload_n 1, 1), (27, .iastore, 1), (28, .iinc 4 1, 3), (31, .goto (-28), 3), (34, .return_, 1)]
def inX1_number : List (Nat × Instr × Nat) := [(0, .iconst 0, 1), (1, .istore_n 1, 1), (2, .aload_n 0, 1), (3, .getfield 15, 3), (6, .astore_n 2, 1), (7, .aload_n 2, 1), (8, .arraylength, 1), (9, .istore_n 3, 1), (10, .iconst 0, 1), (11, .istore 4, 2), (13, .iload 4, 2), (15, .iload_n 3, 1), (16, .if_icmp .ge 23, 3), (19, .aload_n 2, 1), (20, .iload 4, 2), (22, .iaload, 1), (23, .istore 5, 2), (25, .iload 5, 2), (27, .ifCond .le 6, 3), (30, .iinc 1 1, 3), (33, .iinc 4 1, 3), (36, .goto (-23), 3), (39, .iload_n 1, 1), (40, .ireturn, 1)]
def inX1_greatest : List (Nat × Instr × Nat) := [(0, .iconst 0, 1), (1, .istore_n 1, 1), (2, .aload_n 0, 1), (3, .getfield 15, 3), (6, .astore_n 2, 1), (7, .aload_n 2, 1), (8, .arraylength, 1), (9, .istore_n 3, 1), (10, .iconst 0, 1), (11, .istore 4, 2), (13, .iload 4, 2), (15, .iload_n 3, 1), (16, .if_icmp .ge 22, 3), (19, .aload_n 2, 1), (20, .iload 4, 2), (22, .iaload, 1), (23, .istore 5, 2), (25, .iload_n 1, 1), (26, .iload 5, 2), (28, .invokestatic 38, 3), (31, .istore_n 1, 1), (32, .iinc 4 1, 3), (35, .goto (-22), 3), (38, .iload_n 1, 1), (39, .ireturn, 1)]
def inX2_init : List (Nat × Instr × Nat) := [(0, .aload_n 0, 1), (1, .invokespecial 3, 3), (4, .aload_n 0, 1), (5, .bipush 16, 2), (7, .newarray .int, 2), (9, .putfield 11, 3), (12, .return_, 1)]
def inX2_compare : List (Nat × Instr × Nat) := [(0, .aload_n 0, 1), (1, .getfield 11, 3), (4, .iconst 0, 1), (5, .invokestatic 15, 3), (8, .iconst 0, 1), (9, .istore_n 2, 1), (10, .iload_n 2, 1), (11, .aload_n 1, 1), (12, .getfield 21, 3), (15, .if_icmp .ge 42, 3), (18, .iload_n 2, 1), (19, .iconst 1, 1), (20, .iadd, 1), (21, .istore_n 3, 1), (22, .iload_n 3, 1), (23, .aload_n 1, 1), (24, .getfield 21, 3), (27, .if_icmp .ge 24, 3), (30, .aload_n 0, 1), (31, .getfield 11, 3), (34, .aload_n 1, 1), (35, .iload_n 2, 1), (36, .iload_n 3, 1), (37, .invokevirtual 27, 3), (40, .dup2, 1), (41, .iaload, 1), (42, .iconst 1, 1), (43, .iadd, 1), (44, .iastore, 1), (45, .iinc 3 1, 3), (48, .goto (-26), 3), (51, .iinc 2 1, 3), (54, .goto (-44), 3), (57, .return_, 1)]
def inX2_minimalPairs : List (Nat × Instr × Nat) := [(0, .iconst 0, 1), (1, .istore_n 2, 1), (2, .iconst 0, 1), (3, .istore_n 3, 1), (4, .iload_n 3, 1), (5, .iconst 4, 1), (6, .if_icmp .ge 30, 3), (9, .iload_n 1, 1), (10, .iconst (-1), 1), (11, .if_icmp .eq 8, 3), (14, .iload_n 1, 1), (15, .iload_n 3, 1), (16, .if_icmp .ne 14, 3), (19, .iload_n 2, 1), (20, .aload_n 0, 1), (21, .getfield 11, 3), (24, .iconst 1, 1), (25, .iload_n 3, 1), (26, .ishl, 1), (27, .iaload, 1), (28, .iadd, 1), (29, .istore_n 2, 1), (30, .iinc 3 1, 3), (33, .goto (-29), 3), (36, .iload_n 2, 1), (37, .ireturn, 1)]
def inX2_isSufficient : List (Nat × Instr × Nat) := [(0, .iconst 0, 1), (1, .istore_n 2, 1), (2, .iload_n 2, 1), (3, .bipush 16, 2), (5, .if_icmp .ge 26, 3), (8, .aload_n 0, 1), (9, .getfield 11, 3), (12, .iload_n 2, 1), (13, .iaload, 1), (14, .ifCond .le 11, 3), (17, .iload_n 2, 1), (18, .iload_n 1, 1), (19, .iand, 1), (20, .ifCond .ne 5, 3), (23, .iconst 0, 1), (24, .ireturn, 1), (25, .iinc 2 1, 3), (28, .goto (-26), 3), (31, .iconst 1, 1), (32, .ireturn, 1)]
def inX2_leastSufficient : List (Nat × Instr × Nat) := [(0, .bipush 15, 2), (2, .istore_n 1, 1), (3, .iconst 0, 1), (4, .istore_n 2, 1), (5, .iload_n 2, 1), (6, .bipush 16, 2), (8, .if_icmp .ge 30, 3), (11, .iload_n 2, 1), (12, .invokestatic 31, 3), (15, .iload_n 1, 1), (16, .invokestatic 31, 3), (19, .if_icmp .ge 13, 3), (22, .aload_n 0, 1), (23, .iload_n 2, 1), (24, .invokevirtual 37, 3), (27, .ifCond .eq 5, 3), (30, .iload_n 2, 1), (31, .istore_n 1, 1), (32, .iinc 2 1, 3), (35, .goto (-30), 3), (38, .iload_n 1, 1), (39, .ireturn, 1)]
def inX3_init : List (Nat × Instr × Nat) := [(0, .aload_n 0, 1), (1, .invokespecial 3, 3), (4, .aload_n 0, 1), (5, .bipush 85, 2), (7, .newarray .int, 2), (9, .putfield 9, 3), (12, .aload_n 0, 1), (13, .iconst 4, 1), (14, .newarray .int, 2), (16, .dup, 1), (17, .iconst 0, 1), (18, .iconst 1, 1), (19, .iastore, 1), (20, .dup, 1), (21, .iconst 1, 1), (22, .iconst 1, 1), (23, .iastore, 1), (24, .dup, 1), (25, .iconst 2, 1), (26, .iconst 1, 1), (27, .iastore, 1), (28, .dup, 1), (29, .iconst 3, 1), (30, .iconst 1, 1), (31, .iastore, 1), (32, .putfield 15, 3), (35, .aload_n 0, 1), (36, .iconst 0, 1), (37, .putfield 18, 3), (40, .return_, 1)]
def inX3_copyFrom : List (Nat × Instr × Nat) := [(0, .aload_n 1, 1), (1, .getfield 9, 3), (4, .iconst 0, 1), (5, .aload_n 0, 1), (6, .getfield 9, 3), (9, .iconst 0, 1), (10, .aload_n 0, 1), (11, .getfield 9, 3), (14, .arraylength, 1), (15, .invokestatic 22, 3), (18, .aload_n 1, 1), (19, .getfield 15, 3), (22, .iconst 0, 1), (23, .aload_n 0, 1), (24, .getfield 15, 3), (27, .iconst 0, 1), (28, .iconst 4, 1), (29, .invokestatic 22, 3), (32, .aload_n 0, 1), (33, .aload_n 1, 1), (34, .getfield 18, 3), (37, .putfield 18, 3), (40, .return_, 1)]
def inX3_holds : List (Nat × Instr × Nat) := [(0, .iload_n 1, 1), (1, .iconst 0, 1), (2, .aload_n 0, 1), (3, .getfield 18, 3), (6, .iconst 1, 1), (7, .isub, 1), (8, .invokestatic 28, 3), (11, .ireturn, 1)]
def inX3_trait : List (Nat × Instr × Nat) := [(0, .iload_n 1, 1), (1, .ifCond .lt 31, 3), (4, .iload_n 1, 1), (5, .bipush 16, 2), (7, .if_icmp .gt 25, 3), (10, .iload_n 2, 1), (11, .ifCond .lt 21, 3), (14, .iload_n 2, 1), (15, .iconst 4, 1), (16, .if_icmp .gt 16, 3), (19, .aload_n 0, 1), (20, .getfield 9, 3), (23, .iload_n 1, 1), (24, .iconst 5, 1), (25, .imul, 1), (26, .iload_n 2, 1), (27, .iadd, 1), (28, .iaload, 1), (29, .goto 4, 3), (32, .iconst (-1), 1), (33, .ireturn, 1)]
def inX3_setTrait : List (Nat × Instr × Nat) := [(0, .iload_n 1, 1), (1, .iconst 0, 1), (2, .bipush 16, 2), (4, .invokestatic 28, 3), (7, .ifCond .eq 23, 3), (10, .iload_n 2, 1), (11, .iconst 0, 1), (12, .iconst 4, 1), (13, .invokestatic 28, 3), (16, .ifCond .eq 14, 3), (19, .aload_n 0, 1), (20, .getfield 9, 3), (23, .iload_n 1, 1), (24, .iconst 5, 1), (25, .imul, 1), (26, .iload_n 2, 1), (27, .iadd, 1), (28, .iload_n 3, 1), (29, .iastore, 1), (30, .return_, 1)]
def inX3_weightOf : List (Nat × Instr × Nat) := [(0, .iload_n 1, 1), (1, .iconst 0, 1), (2, .iconst 3, 1), (3, .invokestatic 28, 3), (6, .ifCond .eq 12, 3), (9, .aload_n 0, 1), (10, .getfield 15, 3), (13, .iload_n 1, 1), (14, .iaload, 1), (15, .goto 4, 3), (18, .iconst (-1), 1), (19, .ireturn, 1)]
def inX3_setWeight : List (Nat × Instr × Nat) := [(0, .iload_n 1, 1), (1, .iconst 0, 1), (2, .iconst 3, 1), (3, .invokestatic 28, 3), (6, .ifCond .eq 12, 3), (9, .iload_n 2, 1), (10, .iconst 0, 1), (11, .iconst 5, 1), (12, .invokestatic 28, 3), (15, .ifCond .ne 6, 3), (18, .bipush (-2), 2), (20, .ireturn, 1), (21, .aload_n 0, 1), (22, .getfield 15, 3), (25, .iload_n 1, 1), (26, .iaload, 1), (27, .istore_n 3, 1), (28, .aload_n 0, 1), (29, .getfield 15, 3), (32, .iload_n 1, 1), (33, .iload_n 2, 1), (34, .iastore, 1), (35, .iload_n 3, 1), (36, .ireturn, 1)]
def inX3_ask : List (Nat × Instr × Nat) := [(0, .aload_n 0, 1), (1, .bipush 16, 2), (3, .iconst 0, 1), (4, .iload_n 1, 1), (5, .invokevirtual 32, 3), (8, .aload_n 0, 1), (9, .bipush 16, 2), (11, .iconst 1, 1), (12, .iload_n 2, 1), (13, .invokevirtual 32, 3), (16, .aload_n 0, 1), (17, .bipush 16, 2), (19, .iconst 2, 1), (20, .iload_n 3, 1), (21, .invokevirtual 32, 3), (24, .aload_n 0, 1), (25, .bipush 16, 2), (27, .iconst 3, 1), (28, .iload 4, 2), (30, .invokevirtual 32, 3), (33, .return_, 1)]
def inX3_addSign : List (Nat × Instr × Nat) := [(0, .iload_n 1, 1), (1, .iload_n 2, 1), (2, .iload_n 3, 1), (3, .iload 4, 2), (5, .iconst 0, 1), (6, .invokestatic 36, 3), (9, .ifCond .eq 13, 3), (12, .iload 5, 2), (14, .iconst 0, 1), (15, .iconst 3, 1), (16, .invokestatic 28, 3), (19, .ifCond .ne 6, 3), (22, .bipush (-2), 2), (24, .ireturn, 1), (25, .aload_n 0, 1), (26, .iload_n 1, 1), (27, .iload_n 2, 1), (28, .iload_n 3, 1), (29, .iload 4, 2), (31, .invokevirtual 40, 3), (34, .aload_n 0, 1), (35, .bipush 16, 2), (37, .iconst 4, 1), (38, .iload 5, 2), (40, .invokevirtual 32, 3), (43, .aload_n 0, 1), (44, .invokevirtual 44, 3), (47, .ireturn, 1)]
def inX3_appendAsked : List (Nat × Instr × Nat) := [(0, .aload_n 0, 1), (1, .bipush 16, 2), (3, .invokevirtual 48, 3), (6, .ifCond .eq 6, 3), (9, .bipush (-3), 2), (11, .ireturn, 1), (12, .aload_n 0, 1), (13, .getfield 18, 3), (16, .bipush 16, 2), (18, .if_icmp .lt 6, 3), (21, .bipush (-4), 2), (23, .ireturn, 1), (24, .aload_n 0, 1), (25, .getfield 9, 3), (28, .bipush 80, 2), (30, .aload_n 0, 1), (31, .getfield 9, 3), (34, .aload_n 0, 1), (35, .getfield 18, 3), (38, .iconst 5, 1), (39, .imul, 1), (40, .iconst 5, 1), (41, .invokestatic 22, 3), (44, .aload_n 0, 1), (45, .dup, 1), (46, .getfield 18, 3), (49, .iconst 1, 1), (50, .iadd, 1), (51, .putfield 18, 3), (54, .aload_n 0, 1), (55, .getfield 18, 3), (58, .iconst 1, 1), (59, .isub, 1), (60, .ireturn, 1)]
def inX3_hasEqual : List (Nat × Instr × Nat) := [(0, .iconst 0, 1), (1, .istore_n 2, 1), (2, .iload_n 2, 1), (3, .aload_n 0, 1), (4, .getfield 18, 3), (7, .if_icmp .ge 25, 3), (10, .iload_n 2, 1), (11, .iload_n 1, 1), (12, .if_icmp .eq 14, 3), (15, .aload_n 0, 1), (16, .iload_n 2, 1), (17, .iload_n 1, 1), (18, .invokevirtual 52, 3), (21, .ifCond .ne 5, 3), (24, .iconst 1, 1), (25, .ireturn, 1), (26, .iinc 2 1, 3), (29, .goto (-27), 3), (32, .iconst 0, 1), (33, .ireturn, 1)]
def inX3_change : List (Nat × Instr × Nat) := [(0, .iload_n 2, 1), (1, .iconst 4, 1), (2, .if_icmp .ne 7, 3), (5, .iconst 3, 1), (6, .goto 5, 3), (9, .bipush 7, 2), (11, .istore 4, 2), (13, .aload_n 0, 1), (14, .iload_n 1, 1), (15, .invokevirtual 56, 3), (18, .ifCond .eq 22, 3), (21, .iload_n 2, 1), (22, .iconst 0, 1), (23, .iconst 4, 1), (24, .invokestatic 28, 3), (27, .ifCond .eq 13, 3), (30, .iload_n 3, 1), (31, .iconst 0, 1), (32, .iload 4, 2), (34, .invokestatic 28, 3), (37, .ifCond .ne 6, 3), (40, .bipush (-2), 2), (42, .ireturn, 1), (43, .aload_n 0, 1), (44, .iload_n 1, 1), (45, .iload_n 2, 1), (46, .invokevirtual 59, 3), (49, .istore 5, 2), (51, .aload_n 0, 1), (52, .iload_n 1, 1), (53, .iload_n 2, 1), (54, .iload_n 3, 1), (55, .invokevirtual 32, 3), (58, .aload_n 0, 1), (59, .iload_n 1, 1), (60, .invokevirtual 48, 3), (63, .ifCond .eq 14, 3), (66, .aload_n 0, 1), (67, .iload_n 1, 1), (68, .iload_n 2, 1), (69, .iload 5, 2), (71, .invokevirtual 32, 3), (74, .bipush (-3), 2), (76, .ireturn, 1), (77, .iload 5, 2), (79, .ireturn, 1)]
def inX3_remove : List (Nat × Instr × Nat) := [(0, .aload_n 0, 1), (1, .iload_n 1, 1), (2, .invokevirtual 56, 3), (5, .ifCond .ne 6, 3), (8, .bipush (-2), 2), (10, .ireturn, 1), (11, .aload_n 0, 1), (12, .getfield 9, 3), (15, .iload_n 1, 1), (16, .iconst 1, 1), (17, .iadd, 1), (18, .iconst 5, 1), (19, .imul, 1), (20, .aload_n 0, 1), (21, .getfield 9, 3), (24, .iload_n 1, 1), (25, .iconst 5, 1), (26, .imul, 1), (27, .aload_n 0, 1), (28, .getfield 18, 3), (31, .iconst 1, 1), (32, .isub, 1), (33, .iload_n 1, 1), (34, .isub, 1), (35, .iconst 5, 1), (36, .imul, 1), (37, .invokestatic 22, 3), (40, .aload_n 0, 1), (41, .dup, 1), (42, .getfield 18, 3), (45, .iconst 1, 1), (46, .isub, 1), (47, .putfield 18, 3), (50, .aload_n 0, 1), (51, .getfield 18, 3), (54, .ireturn, 1)]
def inX3_addRandom : List (Nat × Instr × Nat) := [(0, .iload_n 1, 1), (1, .iconst 0, 1), (2, .ldc 62, 2), (4, .invokestatic 28, 3), (7, .ifCond .eq 13, 3), (10, .iload_n 2, 1), (11, .iconst 1, 1), (12, .bipush 16, 2), (14, .invokestatic 28, 3), (17, .ifCond .ne 6, 3), (20, .bipush (-2), 2), (22, .ireturn, 1), (23, .aload_n 0, 1), (24, .getfield 18, 3), (27, .istore_n 3, 1), (28, .iload_n 1, 1), (29, .i2l, 1), (30, .lstore 4, 2), (32, .iconst 0, 1), (33, .istore 6, 2), (35, .iload 6, 2), (37, .iload_n 2, 1), (38, .if_icmp .ge 80, 3), (41, .iconst 0, 1), (42, .istore 7, 2), (44, .iload 7, 2), (46, .iconst 4, 1), (47, .if_icmp .gt 60, 3), (50, .lload 4, 2), (52, .ldc2_w 63, 3), (55, .lmul, 1), (56, .ldc2_w 65, 3), (59, .ladd, 1), (60, .ldc2_w 67, 3), (63, .lrem, 1), (64, .lstore 4, 2), (66, .iload 7, 2), (68, .iconst 4, 1), (69, .if_icmp .ne 9, 3), (72, .ldc2_w 69, 3), (75, .goto 6, 3), (78, .ldc2_w 71, 3), (81, .lstore 8, 2), (83, .aload_n 0, 1), (84, .bipush 16, 2), (86, .iload 7, 2), (88, .lload 4, 2), (90, .ldc2_w 73, 3), (93, .ldiv, 1), (94, .lload 8, 2), (96, .lrem, 1), (97, .l2i, 1), (98, .invokevirtual 32, 3), (101, .iinc 7 1, 3), (104, .goto (-60), 3), (107, .aload_n 0, 1), (108, .invokevirtual 44, 3), (111, .pop, 1), (112, .iinc 6 1, 3), (115, .goto (-80), 3), (118, .aload_n 0, 1), (119, .getfield 18, 3), (122, .iload_n 3, 1), (123, .isub, 1), (124, .ireturn, 1)]
def inX3_countOfSort : List (Nat × Instr × Nat) := [(0, .iconst 0, 1), (1, .istore_n 2, 1), (2, .iconst 0, 1), (3, .istore_n 3, 1), (4, .iload_n 3, 1), (5, .aload_n 0, 1), (6, .getfield 18, 3), (9, .if_icmp .ge 22, 3), (12, .aload_n 0, 1), (13, .iload_n 3, 1), (14, .iconst 4, 1), (15, .invokevirtual 59, 3), (18, .iload_n 1, 1), (19, .if_icmp .ne 6, 3), (22, .iinc 2 1, 3), (25, .iinc 3 1, 3), (28, .goto (-24), 3), (31, .iload_n 2, 1), (32, .ireturn, 1)]
def inX3_differingParts : List (Nat × Instr × Nat) := [(0, .iconst 0, 1), (1, .istore_n 3, 1), (2, .iconst 0, 1), (3, .istore 4, 2), (5, .iload 4, 2), (7, .iconst 4, 1), (8, .if_icmp .ge 33, 3), (11, .aload_n 0, 1), (12, .iload_n 1, 1), (13, .iload 4, 2), (15, .invokevirtual 59, 3), (18, .aload_n 0, 1), (19, .iload_n 2, 1), (20, .iload 4, 2), (22, .invokevirtual 59, 3), (25, .if_icmp .eq 10, 3), (28, .iload_n 3, 1), (29, .iconst 1, 1), (30, .iload 4, 2), (32, .ishl, 1), (33, .ior, 1), (34, .istore_n 3, 1), (35, .iinc 4 1, 3), (38, .goto (-33), 3), (41, .iload_n 3, 1), (42, .ireturn, 1)]
def inX3_gap : List (Nat × Instr × Nat) := [(0, .aload_n 0, 1), (1, .iload_n 2, 1), (2, .iload_n 1, 1), (3, .invokevirtual 59, 3), (6, .istore 4, 2), (8, .aload_n 0, 1), (9, .iload_n 3, 1), (10, .iload_n 1, 1), (11, .invokevirtual 59, 3), (14, .istore 5, 2), (16, .iload_n 1, 1), (17, .tableswitch 85 0 2 #[27, 36, 62], 27), (44, .iload 4, 2), (46, .iload 5, 2), (48, .ixor, 1), (49, .invokestatic 75, 3), (52, .ireturn, 1), (53, .iload 4, 2), (55, .iconst 4, 1), (56, .irem, 1), (57, .iload 5, 2), (59, .iconst 4, 1), (60, .irem, 1), (61, .isub, 1), (62, .invokestatic 81, 3), (65, .iload 4, 2), (67, .iconst 4, 1), (68, .idiv, 1), (69, .iload 5, 2), (71, .iconst 4, 1), (72, .idiv, 1), (73, .isub, 1), (74, .invokestatic 81, 3), (77, .iadd, 1), (78, .ireturn, 1), (79, .iload 4, 2), (81, .iload 5, 2), (83, .isub, 1), (84, .invokestatic 81, 3), (87, .bipush 8, 2), (89, .iload 4, 2), (91, .iload 5, 2), (93, .isub, 1), (94, .invokestatic 81, 3), (97, .isub, 1), (98, .invokestatic 86, 3), (101, .ireturn, 1), (102, .iload 4, 2), (104, .iload 5, 2), (106, .invokestatic 89, 3), (109, .ireturn, 1)]
def inX3_faceGap : List (Nat × Instr × Nat) := [(0, .iload_n 0, 1), (1, .iload_n 1, 1), (2, .if_icmp .ne 5, 3), (5, .iconst 0, 1), (6, .ireturn, 1), (7, .iload_n 0, 1), (8, .iconst 2, 1), (9, .idiv, 1), (10, .iload_n 1, 1), (11, .iconst 2, 1), (12, .idiv, 1), (13, .if_icmp .ne 5, 3), (16, .iconst 1, 1), (17, .ireturn, 1), (18, .iload_n 0, 1), (19, .iconst 4, 1), (20, .idiv, 1), (21, .iload_n 1, 1), (22, .iconst 4, 1), (23, .idiv, 1), (24, .if_icmp .ne 7, 3), (27, .iconst 2, 1), (28, .goto 4, 3), (31, .iconst 3, 1), (32, .ireturn, 1)]
def inX3_distance : List (Nat × Instr × Nat) := [(0, .iconst 0, 1), (1, .istore_n 3, 1), (2, .iconst 0, 1), (3, .istore 4, 2), (5, .iload 4, 2), (7, .iconst 4, 1), (8, .if_icmp .ge 28, 3), (11, .iload_n 3, 1), (12, .aload_n 0, 1), (13, .getfield 15, 3), (16, .iload 4, 2), (18, .iaload, 1), (19, .aload_n 0, 1), (20, .iload 4, 2), (22, .iload_n 1, 1), (23, .iload_n 2, 1), (24, .invokevirtual 92, 3), (27, .imul, 1), (28, .iadd, 1), (29, .istore_n 3, 1), (30, .iinc 4 1, 3), (33, .goto (-28), 3), (36, .iload_n 3, 1), (37, .ireturn, 1)]
def inX3_matches : List (Nat × Instr × Nat) := [(0, .iconst 0, 1), (1, .istore_n 1, 1), (2, .iconst 0, 1), (3, .istore_n 2, 1), (4, .iload_n 2, 1), (5, .aload_n 0, 1), (6, .getfield 18, 3), (9, .if_icmp .ge 23, 3), (12, .aload_n 0, 1), (13, .iload_n 2, 1), (14, .invokevirtual 96, 3), (17, .ifCond .eq 9, 3), (20, .iload_n 1, 1), (21, .iconst 1, 1), (22, .iload_n 2, 1), (23, .ishl, 1), (24, .ior, 1), (25, .istore_n 1, 1), (26, .iinc 2 1, 3), (29, .goto (-25), 3), (32, .iload_n 1, 1), (33, .ireturn, 1)]
def inX3_matchesAsked : List (Nat × Instr × Nat) := [(0, .iconst 0, 1), (1, .istore_n 2, 1), (2, .iload_n 2, 1), (3, .iconst 4, 1), (4, .if_icmp .ge 34, 3), (7, .aload_n 0, 1), (8, .bipush 16, 2), (10, .iload_n 2, 1), (11, .invokevirtual 59, 3), (14, .istore_n 3, 1), (15, .iload_n 3, 1), (16, .iconst (-1), 1), (17, .if_icmp .eq 15, 3), (20, .iload_n 3, 1), (21, .aload_n 0, 1), (22, .iload_n 1, 1), (23, .iload_n 2, 1), (24, .invokevirtual 59, 3), (27, .if_icmp .eq 5, 3), (30, .iconst 0, 1), (31, .ireturn, 1), (32, .iinc 2 1, 3), (35, .goto (-33), 3), (38, .iconst 1, 1), (39, .ireturn, 1)]
def inX3_neighbours : List (Nat × Instr × Nat) := [(0, .iconst 0, 1), (1, .istore_n 3, 1), (2, .iconst 0, 1), (3, .istore 4, 2), (5, .iload 4, 2), (7, .aload_n 0, 1), (8, .getfield 18, 3), (11, .if_icmp .ge 27, 3), (14, .aload_n 0, 1), (15, .iload 4, 2), (17, .iload_n 1, 1), (18, .invokevirtual 99, 3), (21, .iload_n 2, 1), (22, .if_icmp .gt 10, 3), (25, .iload_n 3, 1), (26, .iconst 1, 1), (27, .iload 4, 2), (29, .ishl, 1), (30, .ior, 1), (31, .istore_n 3, 1), (32, .iinc 4 1, 3), (35, .goto (-30), 3), (38, .iload_n 3, 1), (39, .ireturn, 1)]
def inX3_closest : List (Nat × Instr × Nat) := [(0, .iconst (-1), 1), (1, .istore_n 1, 1), (2, .ldc 102, 2), (4, .istore_n 2, 1), (5, .iconst 0, 1), (6, .istore_n 3, 1), (7, .iload_n 3, 1), (8, .aload_n 0, 1), (9, .getfield 18, 3), (12, .if_icmp .ge 29, 3), (15, .aload_n 0, 1), (16, .iload_n 3, 1), (17, .bipush 16, 2), (19, .invokevirtual 99, 3), (22, .istore 4, 2), (24, .iload 4, 2), (26, .iload_n 2, 1), (27, .if_icmp .ge 8, 3), (30, .iload 4, 2), (32, .istore_n 2, 1), (33, .iload_n 3, 1), (34, .istore_n 1, 1), (35, .iinc 3 1, 3), (38, .goto (-31), 3), (41, .iload_n 1, 1), (42, .ireturn, 1)]
def inX3_extremePair : List (Nat × Instr × Nat) := [(0, .iconst (-1), 1), (1, .istore_n 2, 1), (2, .iconst 0, 1), (3, .istore_n 3, 1), (4, .iconst 0, 1), (5, .istore 4, 2), (7, .iload 4, 2), (9, .aload_n 0, 1), (10, .getfield 18, 3), (13, .if_icmp .ge 76, 3), (16, .iload 4, 2), (18, .iconst 1, 1), (19, .iadd, 1), (20, .istore 5, 2), (22, .iload 5, 2), (24, .aload_n 0, 1), (25, .getfield 18, 3), (28, .if_icmp .ge 55, 3), (31, .aload_n 0, 1), (32, .iload 4, 2), (34, .iload 5, 2), (36, .invokevirtual 99, 3), (39, .istore 6, 2), (41, .iload_n 2, 1), (42, .iconst (-1), 1), (43, .if_icmp .eq 22, 3), (46, .iload_n 1, 1), (47, .ifCond .eq 12, 3), (50, .iload 6, 2), (52, .iload_n 3, 1), (53, .if_icmp .le 24, 3), (56, .goto 9, 3), (59, .iload 6, 2), (61, .iload_n 3, 1), (62, .if_icmp .ge 15, 3), (65, .iload 6, 2), (67, .istore_n 3, 1), (68, .iload 4, 2), (70, .bipush 16, 2), (72, .imul, 1), (73, .iload 5, 2), (75, .iadd, 1), (76, .istore_n 2, 1), (77, .iinc 5 1, 3), (80, .goto (-58), 3), (83, .iinc 4 1, 3), (86, .goto (-79), 3), (89, .iload_n 2, 1), (90, .ireturn, 1)]
def inX4_init : List (Nat × Instr × Nat) := [(0, .aload_n 0, 1), (1, .invokespecial 3, 3), (4, .aload_n 0, 1), (5, .bipush 6, 2), (7, .newarray .int, 2), (9, .putfield 9, 3), (12, .aload_n 0, 1), (13, .bipush 16, 2), (15, .newarray .int, 2), (17, .putfield 15, 3), (20, .aload_n 0, 1), (21, .bipush 16, 2), (23, .newarray .boolean, 2), (25, .putfield 18, 3), (28, .aload_n 0, 1), (29, .bipush 16, 2), (31, .newarray .int, 2), (33, .putfield 22, 3), (36, .aload_n 0, 1), (37, .bipush 16, 2), (39, .newarray .int, 2), (41, .putfield 25, 3), (44, .aload_n 0, 1), (45, .iconst 0, 1), (46, .putfield 28, 3), (49, .aload_n 0, 1), (50, .iconst 0, 1), (51, .putfield 32, 3), (54, .return_, 1)]
def inX4_interpret : List (Nat × Instr × Nat) := [(0, .aload_n 0, 1), (1, .getfield 9, 3), (4, .iconst (-1), 1), (5, .invokestatic 35, 3), (8, .aload_n 0, 1), (9, .iconst 0, 1), (10, .putfield 32, 3), (13, .aload_n 0, 1), (14, .iconst 0, 1), (15, .putfield 28, 3), (18, .iconst 0, 1), (19, .istore_n 3, 1), (20, .iload_n 2, 1), (21, .aload_n 1, 1), (22, .getfield 41, 3), (25, .getfield 47, 3), (28, .invokestatic 52, 3), (31, .istore 4, 2), (33, .iconst 0, 1), (34, .istore 5, 2), (36, .iload 5, 2), (38, .iload 4, 2), (40, .if_icmp .ge 73, 3), (43, .aload_n 1, 1), (44, .iload 5, 2), (46, .invokevirtual 58, 3), (49, .istore 6, 2), (51, .aload_n 0, 1), (52, .aload_n 1, 1), (53, .getfield 41, 3), (56, .iload 5, 2), (58, .iload 6, 2), (60, .invokevirtual 62, 3), (63, .aload_n 0, 1), (64, .getfield 15, 3), (67, .iload 5, 2), (69, .iload_n 3, 1), (70, .iastore, 1), (71, .aload_n 0, 1), (72, .iload_n 3, 1), (73, .iconst 1, 1), (74, .iadd, 1), (75, .putfield 28, 3), (78, .iload 6, 2), (80, .iconst 3, 1), (81, .if_icmp .ne 6, 3), (84, .iinc 3 1, 3), (87, .aload_n 0, 1), (88, .getfield 18, 3), (91, .iload 5, 2), (93, .baload, 1), (94, .ifCond .eq 13, 3), (97, .aload_n 0, 1), (98, .dup, 1), (99, .getfield 32, 3), (102, .iconst 1, 1), (103, .iadd, 1), (104, .putfield 32, 3), (107, .iinc 5 1, 3), (110, .goto (-74), 3), (113, .return_, 1)]
def inX4_interpretWord : List (Nat × Instr × Nat) := [(0, .aload_n 1, 1), (1, .iload_n 2, 1), (2, .invokevirtual 66, 3), (5, .istore 4, 2), (7, .aload_n 1, 1), (8, .iload_n 2, 1), (9, .invokevirtual 69, 3), (12, .istore 5, 2), (14, .aload_n 0, 1), (15, .getfield 18, 3), (18, .iload_n 2, 1), (19, .iconst 0, 1), (20, .bastore, 1), (21, .aload_n 0, 1), (22, .getfield 22, 3), (25, .iload_n 2, 1), (26, .iconst (-1), 1), (27, .iastore, 1), (28, .aload_n 0, 1), (29, .getfield 25, 3), (32, .iload_n 2, 1), (33, .iconst (-1), 1), (34, .iastore, 1), (35, .iload_n 3, 1), (36, .tableswitch 148 1 3 #[28, 42, 78], 28), (64, .aload_n 0, 1), (65, .iload 5, 2), (67, .aload_n 1, 1), (68, .iload_n 2, 1), (69, .invokevirtual 72, 3), (72, .invokevirtual 75, 3), (75, .goto 109, 3), (78, .aload_n 0, 1), (79, .getfield 22, 3), (82, .iload_n 2, 1), (83, .aload_n 0, 1), (84, .iload 5, 2), (86, .invokevirtual 79, 3), (89, .iastore, 1), (90, .aload_n 0, 1), (91, .getfield 18, 3), (94, .iload_n 2, 1), (95, .aload_n 0, 1), (96, .getfield 22, 3), (99, .iload_n 2, 1), (100, .iaload, 1), (101, .iconst (-1), 1), (102, .if_icmp .ne 7, 3), (105, .iconst 1, 1), (106, .goto 4, 3), (109, .iconst 0, 1), (110, .bastore, 1), (111, .goto 73, 3), (114, .aload_n 0, 1), (115, .getfield 22, 3), (118, .iload_n 2, 1), (119, .aload_n 0, 1), (120, .iload 4, 2), (122, .invokevirtual 79, 3), (125, .iastore, 1), (126, .aload_n 0, 1), (127, .getfield 25, 3), (130, .iload_n 2, 1), (131, .aload_n 0, 1), (132, .iload 5, 2), (134, .invokevirtual 79, 3), (137, .iastore, 1), (138, .aload_n 0, 1), (139, .getfield 18, 3), (142, .iload_n 2, 1), (143, .iload 4, 2), (145, .iconst (-1), 1), (146, .if_icmp .eq 13, 3), (149, .aload_n 0, 1), (150, .getfield 22, 3), (153, .iload_n 2, 1), (154, .iaload, 1), (155, .iconst (-1), 1), (156, .if_icmp .eq 19, 3), (159, .iload 5, 2), (161, .iconst (-1), 1), (162, .if_icmp .eq 17, 3), (165, .aload_n 0, 1), (166, .getfield 25, 3), (169, .iload_n 2, 1), (170, .iaload, 1), (171, .iconst (-1), 1), (172, .if_icmp .ne 7, 3), (175, .iconst 1, 1), (176, .goto 4, 3), (179, .iconst 0, 1), (180, .bastore, 1), (181, .goto 3, 3), (184, .return_, 1)]
def inX4_thingAt : List (Nat × Instr × Nat) := [(0, .iload_n 1, 1), (1, .invokestatic 82, 3), (4, .ifCond .eq 12, 3), (7, .aload_n 0, 1), (8, .getfield 9, 3), (11, .iload_n 1, 1), (12, .iaload, 1), (13, .goto 4, 3), (16, .iconst (-1), 1), (17, .ireturn, 1)]
def inX4_setThing : List (Nat × Instr × Nat) := [(0, .iload_n 1, 1), (1, .invokestatic 82, 3), (4, .ifCond .eq 10, 3), (7, .aload_n 0, 1), (8, .getfield 9, 3), (11, .iload_n 1, 1), (12, .iload_n 2, 1), (13, .iastore, 1), (14, .return_, 1)]
def inX5_init : List (Nat × Instr × Nat) := [(0, .aload_n 0, 1), (1, .invokespecial 3, 3), (4, .aload_n 0, 1), (5, .bipush 6, 2), (7, .anewarray 11, 3), (10, .putfield 13, 3), (13, .aload_n 0, 1), (14, .iconst 0, 1), (15, .putfield 17, 3), (18, .aload_n 0, 1), (19, .iconst 0, 1), (20, .putfield 21, 3), (23, .iconst 0, 1), (24, .istore_n 1, 1), (25, .iload_n 1, 1), (26, .bipush 6, 2), (28, .if_icmp .ge 22, 3), (31, .aload_n 0, 1), (32, .getfield 13, 3), (35, .iload_n 1, 1), (36, .new 11, 3), (39, .dup, 1), (40, .invokespecial 24, 3), (43, .aastore, 1), (44, .iinc 1 1, 3), (47, .goto (-22), 3), (50, .return_, 1)]
def inX5_stage : List (Nat × Instr × Nat) := [(0, .aload_n 0, 1), (1, .getfield 13, 3), (4, .aload_n 0, 1), (5, .getfield 17, 3), (8, .aaload, 1), (9, .aload_n 1, 1), (10, .invokevirtual 25, 3), (13, .return_, 1)]
def inX5_unstage : List (Nat × Instr × Nat) := [(0, .aload_n 1, 1), (1, .aload_n 0, 1), (2, .getfield 13, 3), (5, .aload_n 0, 1), (6, .getfield 17, 3), (9, .aaload, 1), (10, .invokevirtual 25, 3), (13, .return_, 1)]
def inX5_keepStaged : List (Nat × Instr × Nat) := [(0, .aload_n 0, 1), (1, .aload_n 0, 1), (2, .getfield 17, 3), (5, .iconst 1, 1), (6, .iadd, 1), (7, .bipush 6, 2), (9, .irem, 1), (10, .putfield 17, 3), (13, .aload_n 0, 1), (14, .aload_n 0, 1), (15, .getfield 21, 3), (18, .iconst 1, 1), (19, .iadd, 1), (20, .iconst 5, 1), (21, .invokestatic 29, 3), (24, .putfield 21, 3), (27, .return_, 1)]
def inX5_restore : List (Nat × Instr × Nat) := [(0, .aload_n 0, 1), (1, .getfield 21, 3), (4, .ifCond .ne 6, 3), (7, .bipush (-3), 2), (9, .ireturn, 1), (10, .aload_n 0, 1), (11, .aload_n 0, 1), (12, .getfield 17, 3), (15, .bipush 6, 2), (17, .iadd, 1), (18, .iconst 1, 1), (19, .isub, 1), (20, .bipush 6, 2), (22, .irem, 1), (23, .putfield 17, 3), (26, .aload_n 0, 1), (27, .dup, 1), (28, .getfield 21, 3), (31, .iconst 1, 1), (32, .isub, 1), (33, .putfield 21, 3), (36, .aload_n 1, 1), (37, .aload_n 0, 1), (38, .getfield 13, 3), (41, .aload_n 0, 1), (42, .getfield 17, 3), (45, .aaload, 1), (46, .invokevirtual 25, 3), (49, .aload_n 0, 1), (50, .getfield 21, 3), (53, .ireturn, 1)]
def inX6_init : List (Nat × Instr × Nat) := [(0, .aload_n 0, 1), (1, .invokespecial 3, 3), (4, .aload_n 0, 1), (5, .bipush 32, 2), (7, .newarray .int, 2), (9, .putfield 9, 3), (12, .aload_n 0, 1), (13, .iconst 0, 1), (14, .putfield 15, 3), (17, .return_, 1)]
def inX6_follow : List (Nat × Instr × Nat) := [(0, .aload_n 0, 1), (1, .iconst 0, 1), (2, .putfield 15, 3), (5, .iconst 0, 1), (6, .istore_n 2, 1), (7, .iload_n 2, 1), (8, .aload_n 1, 1), (9, .getfield 19, 3), (12, .if_icmp .ge 27, 3), (15, .aload_n 0, 1), (16, .aload_n 1, 1), (17, .iload_n 2, 1), (18, .invokevirtual 22, 3), (21, .invokevirtual 26, 3), (24, .aload_n 0, 1), (25, .aload_n 1, 1), (26, .iload_n 2, 1), (27, .invokevirtual 30, 3), (30, .invokevirtual 26, 3), (33, .iinc 2 1, 3), (36, .goto (-29), 3), (39, .return_, 1)]
def inX6_add : List (Nat × Instr × Nat) := [(0, .iload_n 1, 1), (1, .invokestatic 33, 3), (4, .ifCond .eq 35, 3), (7, .aload_n 0, 1), (8, .getfield 15, 3), (11, .aload_n 0, 1), (12, .getfield 9, 3), (15, .arraylength, 1), (16, .if_icmp .ge 23, 3), (19, .aload_n 0, 1), (20, .getfield 9, 3), (23, .aload_n 0, 1), (24, .getfield 15, 3), (27, .iload_n 1, 1), (28, .iastore, 1), (29, .aload_n 0, 1), (30, .dup, 1), (31, .getfield 15, 3), (34, .iconst 1, 1), (35, .iadd, 1), (36, .putfield 15, 3), (39, .return_, 1)]
def inX6_lengthWith : List (Nat × Instr × Nat) := [(0, .iconst 0, 1), (1, .istore_n 2, 1), (2, .iconst 1, 1), (3, .istore_n 3, 1), (4, .iload_n 3, 1), (5, .aload_n 0, 1), (6, .getfield 15, 3), (9, .if_icmp .ge 34, 3), (12, .iload_n 2, 1), (13, .aload_n 1, 1), (14, .aload_n 0, 1), (15, .getfield 9, 3), (18, .iload_n 3, 1), (19, .iaload, 1), (20, .iaload, 1), (21, .aload_n 1, 1), (22, .aload_n 0, 1), (23, .getfield 9, 3), (26, .iload_n 3, 1), (27, .iconst 1, 1), (28, .isub, 1), (29, .iaload, 1), (30, .iaload, 1), (31, .isub, 1), (32, .invokestatic 37, 3), (35, .iadd, 1), (36, .istore_n 2, 1), (37, .iinc 3 1, 3), (40, .goto (-36), 3), (43, .iload_n 2, 1), (44, .ireturn, 1)]
def inX6_setOfSpots : List (Nat × Instr × Nat) := [(0, .iconst 0, 1), (1, .istore_n 1, 1), (2, .iconst 0, 1), (3, .istore_n 2, 1), (4, .iload_n 2, 1), (5, .aload_n 0, 1), (6, .getfield 15, 3), (9, .if_icmp .ge 20, 3), (12, .iload_n 1, 1), (13, .iconst 1, 1), (14, .aload_n 0, 1), (15, .getfield 9, 3), (18, .iload_n 2, 1), (19, .iaload, 1), (20, .ishl, 1), (21, .ior, 1), (22, .istore_n 1, 1), (23, .iinc 2 1, 3), (26, .goto (-22), 3), (29, .iload_n 1, 1), (30, .ireturn, 1)]
def inX7_init : List (Nat × Instr × Nat) := [(0, .aload_n 0, 1), (1, .invokespecial 3, 3), (4, .aload_n 0, 1), (5, .bipush 120, 2), (7, .newarray .int, 2), (9, .putfield 9, 3), (12, .aload_n 0, 1), (13, .iconst 0, 1), (14, .putfield 15, 3), (17, .aload_n 0, 1), (18, .iconst 0, 1), (19, .putfield 19, 3), (22, .aload_n 0, 1), (23, .bipush 60, 2), (25, .newarray .int, 2), (27, .putfield 22, 3), (30, .aload_n 0, 1), (31, .bipush 60, 2), (33, .newarray .int, 2), (35, .putfield 25, 3), (38, .aload_n 0, 1), (39, .sipush 360, 3), (42, .newarray .int, 2), (44, .putfield 28, 3), (47, .aload_n 0, 1), (48, .iconst 0, 1), (49, .putfield 31, 3), (52, .return_, 1)]
def inX7_append : List (Nat × Instr × Nat) := [(0, .iload_n 1, 1), (1, .iconst 0, 1), (2, .bipush 127, 2), (4, .invokestatic 34, 3), (7, .ifCond .ne 6, 3), (10, .bipush (-2), 2), (12, .ireturn, 1), (13, .aload_n 0, 1), (14, .getfield 15, 3), (17, .bipush 120, 2), (19, .if_icmp .lt 6, 3), (22, .bipush (-4), 2), (24, .ireturn, 1), (25, .aload_n 0, 1), (26, .getfield 9, 3), (29, .aload_n 0, 1), (30, .getfield 15, 3), (33, .iload_n 1, 1), (34, .iastore, 1), (35, .aload_n 0, 1), (36, .dup, 1), (37, .getfield 15, 3), (40, .iconst 1, 1), (41, .iadd, 1), (42, .putfield 15, 3), (45, .aload_n 0, 1), (46, .getfield 15, 3), (49, .ireturn, 1)]
def inX7_empty : List (Nat × Instr × Nat) := [(0, .aload_n 0, 1), (1, .getfield 15, 3), (4, .istore_n 1, 1), (5, .aload_n 0, 1), (6, .iconst 0, 1), (7, .putfield 15, 3), (10, .iload_n 1, 1), (11, .ireturn, 1)]
def inX7_letter : List (Nat × Instr × Nat) := [(0, .iload_n 1, 1), (1, .iconst 0, 1), (2, .aload_n 0, 1), (3, .getfield 31, 3), (6, .iconst 1, 1), (7, .isub, 1), (8, .invokestatic 34, 3), (11, .ifCond .eq 12, 3), (14, .aload_n 0, 1), (15, .getfield 22, 3), (18, .iload_n 1, 1), (19, .iaload, 1), (20, .goto 4, 3), (23, .iconst (-1), 1), (24, .ireturn, 1)]
def inX7_numbers : List (Nat × Instr × Nat) := [(0, .iload_n 1, 1), (1, .iconst 0, 1), (2, .aload_n 0, 1), (3, .getfield 31, 3), (6, .iconst 1, 1), (7, .isub, 1), (8, .invokestatic 34, 3), (11, .ifCond .eq 12, 3), (14, .aload_n 0, 1), (15, .getfield 25, 3), (18, .iload_n 1, 1), (19, .iaload, 1), (20, .goto 4, 3), (23, .iconst 0, 1), (24, .ireturn, 1)]
def inX7_number : List (Nat × Instr × Nat) := [(0, .iload_n 2, 1), (1, .iconst 0, 1), (2, .aload_n 0, 1), (3, .iload_n 1, 1), (4, .invokevirtual 38, 3), (7, .iconst 1, 1), (8, .isub, 1), (9, .invokestatic 34, 3), (12, .ifCond .eq 17, 3), (15, .aload_n 0, 1), (16, .getfield 28, 3), (19, .iload_n 1, 1), (20, .bipush 6, 2), (22, .imul, 1), (23, .iload_n 2, 1), (24, .iadd, 1), (25, .iaload, 1), (26, .goto 4, 3), (29, .iconst (-1), 1), (30, .ireturn, 1)]
def inX7_parse : List (Nat × Instr × Nat) := [(0, .aload_n 0, 1), (1, .iconst 0, 1), (2, .putfield 31, 3), (5, .aload_n 0, 1), (6, .iconst 0, 1), (7, .putfield 19, 3), (10, .iconst 0, 1), (11, .istore_n 1, 1), (12, .iload_n 1, 1), (13, .bipush 60, 2), (15, .if_icmp .ge 51, 3), (18, .aload_n 0, 1), (19, .invokevirtual 42, 3), (22, .iload_n 1, 1), (23, .ifCond .le 17, 3), (26, .aload_n 0, 1), (27, .getfield 19, 3), (30, .aload_n 0, 1), (31, .getfield 15, 3), (34, .if_icmp .lt 6, 3), (37, .goto 29, 3), (40, .aload_n 0, 1), (41, .iload_n 1, 1), (42, .invokevirtual 45, 3), (45, .ifCond .ne 8, 3), (48, .aload_n 0, 1), (49, .getfield 19, 3), (52, .ireturn, 1), (53, .aload_n 0, 1), (54, .iload_n 1, 1), (55, .iconst 1, 1), (56, .iadd, 1), (57, .putfield 31, 3), (60, .iinc 1 1, 3), (63, .goto (-51), 3), (66, .iconst (-1), 1), (67, .ireturn, 1)]
def inX7_skipBlanks : List (Nat × Instr × Nat) := [(0, .aload_n 0, 1), (1, .getfield 19, 3), (4, .aload_n 0, 1), (5, .getfield 15, 3), (8, .if_icmp .ge 30, 3), (11, .aload_n 0, 1), (12, .getfield 9, 3), (15, .aload_n 0, 1), (16, .getfield 19, 3), (19, .iaload, 1), (20, .bipush 32, 2), (22, .if_icmp .ne 16, 3), (25, .aload_n 0, 1), (26, .dup, 1), (27, .getfield 19, 3), (30, .iconst 1, 1), (31, .iadd, 1), (32, .putfield 19, 3), (35, .goto (-35), 3), (38, .return_, 1)]
def inX7_current : List (Nat × Instr × Nat) := [(0, .aload_n 0, 1), (1, .getfield 19, 3), (4, .iconst 0, 1), (5, .aload_n 0, 1), (6, .getfield 15, 3), (9, .iconst 1, 1), (10, .isub, 1), (11, .invokestatic 34, 3), (14, .ifCond .eq 15, 3), (17, .aload_n 0, 1), (18, .getfield 9, 3), (21, .aload_n 0, 1), (22, .getfield 19, 3), (25, .iaload, 1), (26, .goto 4, 3), (29, .iconst (-1), 1), (30, .ireturn, 1)]
def inX7_isAtDigit : List (Nat × Instr × Nat) := [(0, .aload_n 0, 1), (1, .invokevirtual 49, 3), (4, .bipush 48, 2), (6, .bipush 57, 2), (8, .invokestatic 34, 3), (11, .ireturn, 1)]
def inX7_parseOrder : List (Nat × Instr × Nat) := [(0, .aload_n 0, 1), (1, .invokevirtual 49, 3), (4, .invokestatic 53, 3), (7, .istore_n 2, 1), (8, .iload_n 2, 1), (9, .iconst (-1), 1), (10, .if_icmp .ne 5, 3), (13, .iconst 0, 1), (14, .ireturn, 1), (15, .aload_n 0, 1), (16, .invokevirtual 49, 3), (19, .bipush 119, 2), (21, .if_icmp .ne 7, 3), (24, .iconst 1, 1), (25, .goto 4, 3), (28, .iload_n 2, 1), (29, .istore_n 3, 1), (30, .aload_n 0, 1), (31, .getfield 22, 3), (34, .iload_n 1, 1), (35, .aload_n 0, 1), (36, .invokevirtual 49, 3), (39, .iastore, 1), (40, .aload_n 0, 1), (41, .getfield 25, 3), (44, .iload_n 1, 1), (45, .iconst 0, 1), (46, .iastore, 1), (47, .aload_n 0, 1), (48, .dup, 1), (49, .getfield 19, 3), (52, .iconst 1, 1), (53, .iadd, 1), (54, .putfield 19, 3), (57, .aload_n 0, 1), (58, .invokevirtual 42, 3), (61, .iconst 0, 1), (62, .istore 4, 2), (64, .iload 4, 2), (66, .iload_n 2, 1), (67, .if_icmp .ge 32, 3), (70, .aload_n 0, 1), (71, .invokevirtual 56, 3), (74, .ifCond .eq 25, 3), (77, .aload_n 0, 1), (78, .iload_n 1, 1), (79, .iload 4, 2), (81, .invokevirtual 60, 3), (84, .ifCond .ne 5, 3), (87, .iconst 0, 1), (88, .ireturn, 1), (89, .aload_n 0, 1), (90, .invokevirtual 42, 3), (93, .iinc 4 1, 3), (96, .goto (-32), 3), (99, .aload_n 0, 1), (100, .invokevirtual 49, 3), (103, .bipush 59, 2), (105, .if_icmp .ne 13, 3), (108, .aload_n 0, 1), (109, .getfield 25, 3), (112, .iload_n 1, 1), (113, .iaload, 1), (114, .iload_n 3, 1), (115, .if_icmp .ge 5, 3), (118, .iconst 0, 1), (119, .ireturn, 1), (120, .aload_n 0, 1), (121, .dup, 1), (122, .getfield 19, 3), (125, .iconst 1, 1), (126, .iadd, 1), (127, .putfield 19, 3), (130, .iconst 1, 1), (131, .ireturn, 1)]
def inX7_parseNumber : List (Nat × Instr × Nat) := [(0, .aload_n 0, 1), (1, .invokevirtual 49, 3), (4, .bipush 48, 2), (6, .isub, 1), (7, .istore_n 3, 1), (8, .aload_n 0, 1), (9, .dup, 1), (10, .getfield 19, 3), (13, .iconst 1, 1), (14, .iadd, 1), (15, .putfield 19, 3), (18, .aload_n 0, 1), (19, .invokevirtual 56, 3), (22, .ifCond .eq 26, 3), (25, .iload_n 3, 1), (26, .bipush 10, 2), (28, .imul, 1), (29, .aload_n 0, 1), (30, .invokevirtual 49, 3), (33, .iadd, 1), (34, .bipush 48, 2), (36, .isub, 1), (37, .istore_n 3, 1), (38, .aload_n 0, 1), (39, .dup, 1), (40, .getfield 19, 3), (43, .iconst 1, 1), (44, .iadd, 1), (45, .putfield 19, 3), (48, .aload_n 0, 1), (49, .getfield 28, 3), (52, .iload_n 1, 1), (53, .bipush 6, 2), (55, .imul, 1), (56, .iload_n 2, 1), (57, .iadd, 1), (58, .iload_n 3, 1), (59, .iastore, 1), (60, .aload_n 0, 1), (61, .getfield 25, 3), (64, .iload_n 1, 1), (65, .iload_n 2, 1), (66, .iconst 1, 1), (67, .iadd, 1), (68, .iastore, 1), (69, .aload_n 0, 1), (70, .invokevirtual 56, 3), (73, .ifCond .ne 7, 3), (76, .iconst 1, 1), (77, .goto 4, 3), (80, .iconst 0, 1), (81, .ireturn, 1)]
def inX7_mostNumbers : List (Nat × Instr × Nat) := [(0, .iload_n 0, 1), (1, .lookupswitch 72 #[(99, 70), (100, 68), (103, 63), (108, 65), (115, 59), (119, 61)], 59), (60, .iconst 5, 1), (61, .ireturn, 1), (62, .iconst 3, 1), (63, .ireturn, 1), (64, .iconst 2, 1), (65, .ireturn, 1), (66, .bipush 6, 2), (68, .ireturn, 1), (69, .iconst 1, 1), (70, .ireturn, 1), (71, .iconst 0, 1), (72, .ireturn, 1), (73, .iconst (-1), 1), (74, .ireturn, 1)]
def inX8_init : List (Nat × Instr × Nat) := [(0, .aload_n 0, 1), (1, .invokespecial 3, 3), (4, .aload_n 0, 1), (5, .bipush 48, 2), (7, .newarray .int, 2), (9, .putfield 11, 3), (12, .aload_n 0, 1), (13, .iconst 0, 1), (14, .putfield 15, 3), (17, .return_, 1)]
def inX8_copyFrom : List (Nat × Instr × Nat) := [(0, .aload_n 1, 1), (1, .getfield 11, 3), (4, .iconst 0, 1), (5, .aload_n 0, 1), (6, .getfield 11, 3), (9, .iconst 0, 1), (10, .aload_n 0, 1), (11, .getfield 11, 3), (14, .arraylength, 1), (15, .invokestatic 19, 3), (18, .aload_n 0, 1), (19, .aload_n 1, 1), (20, .getfield 15, 3), (23, .putfield 15, 3), (26, .return_, 1)]
def inX8_holds : List (Nat × Instr × Nat) := [(0, .iload_n 1, 1), (1, .iconst 0, 1), (2, .aload_n 0, 1), (3, .getfield 15, 3), (6, .iconst 1, 1), (7, .isub, 1), (8, .invokestatic 25, 3), (11, .ireturn, 1)]
def inX8_signIn : List (Nat × Instr × Nat) := [(0, .aload_n 0, 1), (1, .iload_n 1, 1), (2, .iconst 0, 1), (3, .invokevirtual 29, 3), (6, .ireturn, 1)]
def inX8_from : List (Nat × Instr × Nat) := [(0, .aload_n 0, 1), (1, .iload_n 1, 1), (2, .iconst 1, 1), (3, .invokevirtual 29, 3), (6, .ireturn, 1)]
def inX8_to : List (Nat × Instr × Nat) := [(0, .aload_n 0, 1), (1, .iload_n 1, 1), (2, .iconst 2, 1), (3, .invokevirtual 29, 3), (6, .ireturn, 1)]
def inX8_cell : List (Nat × Instr × Nat) := [(0, .iload_n 1, 1), (1, .ifCond .lt 24, 3), (4, .iload_n 1, 1), (5, .aload_n 0, 1), (6, .getfield 15, 3), (9, .if_icmp .ge 16, 3), (12, .aload_n 0, 1), (13, .getfield 11, 3), (16, .iload_n 1, 1), (17, .iconst 3, 1), (18, .imul, 1), (19, .iload_n 2, 1), (20, .iadd, 1), (21, .iaload, 1), (22, .goto 4, 3), (25, .iconst (-1), 1), (26, .ireturn, 1)]
def inX8_countOf : List (Nat × Instr × Nat) := [(0, .iconst 0, 1), (1, .istore_n 2, 1), (2, .iconst 0, 1), (3, .istore_n 3, 1), (4, .iload_n 3, 1), (5, .aload_n 0, 1), (6, .getfield 15, 3), (9, .if_icmp .ge 21, 3), (12, .aload_n 0, 1), (13, .iload_n 3, 1), (14, .invokevirtual 33, 3), (17, .iload_n 1, 1), (18, .if_icmp .ne 6, 3), (21, .iinc 2 1, 3), (24, .iinc 3 1, 3), (27, .goto (-23), 3), (30, .iload_n 2, 1), (31, .ireturn, 1)]
def inX8_renumberAbove : List (Nat × Instr × Nat) := [(0, .iconst 0, 1), (1, .istore_n 2, 1), (2, .iload_n 2, 1), (3, .aload_n 0, 1), (4, .getfield 15, 3), (7, .if_icmp .ge 33, 3), (10, .aload_n 0, 1), (11, .getfield 11, 3), (14, .iload_n 2, 1), (15, .iconst 3, 1), (16, .imul, 1), (17, .iaload, 1), (18, .iload_n 1, 1), (19, .if_icmp .le 15, 3), (22, .aload_n 0, 1), (23, .getfield 11, 3), (26, .iload_n 2, 1), (27, .iconst 3, 1), (28, .imul, 1), (29, .dup2, 1), (30, .iaload, 1), (31, .iconst 1, 1), (32, .isub, 1), (33, .iastore, 1), (34, .iinc 2 1, 3), (37, .goto (-35), 3), (40, .return_, 1)]
def inX8_append : List (Nat × Instr × Nat) := [(0, .aload_n 0, 1), (1, .getfield 15, 3), (4, .bipush 16, 2), (6, .if_icmp .lt 6, 3), (9, .bipush (-4), 2), (11, .ireturn, 1), (12, .aload_n 0, 1), (13, .aload_n 0, 1), (14, .getfield 15, 3), (17, .iload_n 1, 1), (18, .iload_n 2, 1), (19, .iload_n 3, 1), (20, .invokevirtual 37, 3), (23, .aload_n 0, 1), (24, .dup, 1), (25, .getfield 15, 3), (28, .iconst 1, 1), (29, .iadd, 1), (30, .putfield 15, 3), (33, .aload_n 0, 1), (34, .getfield 15, 3), (37, .iconst 1, 1), (38, .isub, 1), (39, .ireturn, 1)]
def inX8_put : List (Nat × Instr × Nat) := [(0, .iload_n 1, 1), (1, .iconst 0, 1), (2, .bipush 15, 2), (4, .invokestatic 25, 3), (7, .ifCond .eq 35, 3), (10, .aload_n 0, 1), (11, .getfield 11, 3), (14, .iload_n 1, 1), (15, .iconst 3, 1), (16, .imul, 1), (17, .iload_n 2, 1), (18, .iastore, 1), (19, .aload_n 0, 1), (20, .getfield 11, 3), (23, .iload_n 1, 1), (24, .iconst 3, 1), (25, .imul, 1), (26, .iconst 1, 1), (27, .iadd, 1), (28, .iload_n 3, 1), (29, .iastore, 1), (30, .aload_n 0, 1), (31, .getfield 11, 3), (34, .iload_n 1, 1), (35, .iconst 3, 1), (36, .imul, 1), (37, .iconst 2, 1), (38, .iadd, 1), (39, .iload 4, 2), (41, .iastore, 1), (42, .return_, 1)]
def inX8_remove : List (Nat × Instr × Nat) := [(0, .aload_n 0, 1), (1, .iload_n 1, 1), (2, .invokevirtual 41, 3), (5, .ifCond .ne 6, 3), (8, .bipush (-2), 2), (10, .ireturn, 1), (11, .aload_n 0, 1), (12, .iload_n 1, 1), (13, .iconst 1, 1), (14, .iadd, 1), (15, .iload_n 1, 1), (16, .aload_n 0, 1), (17, .getfield 15, 3), (20, .iconst 1, 1), (21, .isub, 1), (22, .iload_n 1, 1), (23, .isub, 1), (24, .invokevirtual 45, 3), (27, .aload_n 0, 1), (28, .dup, 1), (29, .getfield 15, 3), (32, .iconst 1, 1), (33, .isub, 1), (34, .putfield 15, 3), (37, .aload_n 0, 1), (38, .getfield 15, 3), (41, .ireturn, 1)]
def inX8_move : List (Nat × Instr × Nat) := [(0, .aload_n 0, 1), (1, .iload_n 1, 1), (2, .invokevirtual 41, 3), (5, .ifCond .eq 11, 3), (8, .aload_n 0, 1), (9, .iload_n 2, 1), (10, .invokevirtual 41, 3), (13, .ifCond .ne 6, 3), (16, .bipush (-2), 2), (18, .ireturn, 1), (19, .aload_n 0, 1), (20, .iload_n 1, 1), (21, .invokevirtual 33, 3), (24, .istore_n 3, 1), (25, .aload_n 0, 1), (26, .iload_n 1, 1), (27, .invokevirtual 49, 3), (30, .istore 4, 2), (32, .aload_n 0, 1), (33, .iload_n 1, 1), (34, .invokevirtual 52, 3), (37, .istore 5, 2), (39, .iload_n 1, 1), (40, .iload_n 2, 1), (41, .if_icmp .ge 17, 3), (44, .aload_n 0, 1), (45, .iload_n 1, 1), (46, .iconst 1, 1), (47, .iadd, 1), (48, .iload_n 1, 1), (49, .iload_n 2, 1), (50, .iload_n 1, 1), (51, .isub, 1), (52, .invokevirtual 45, 3), (55, .goto 14, 3), (58, .aload_n 0, 1), (59, .iload_n 2, 1), (60, .iload_n 2, 1), (61, .iconst 1, 1), (62, .iadd, 1), (63, .iload_n 1, 1), (64, .iload_n 2, 1), (65, .isub, 1), (66, .invokevirtual 45, 3), (69, .aload_n 0, 1), (70, .iload_n 2, 1), (71, .iload_n 3, 1), (72, .iload 4, 2), (74, .iload 5, 2), (76, .invokevirtual 37, 3), (79, .iload_n 1, 1), (80, .iload_n 2, 1), (81, .isub, 1), (82, .invokestatic 55, 3), (85, .ireturn, 1)]
def inX8_moveRows : List (Nat × Instr × Nat) := [(0, .aload_n 0, 1), (1, .getfield 11, 3), (4, .iload_n 1, 1), (5, .iconst 3, 1), (6, .imul, 1), (7, .aload_n 0, 1), (8, .getfield 11, 3), (11, .iload_n 2, 1), (12, .iconst 3, 1), (13, .imul, 1), (14, .iload_n 3, 1), (15, .iconst 3, 1), (16, .imul, 1), (17, .invokestatic 19, 3), (20, .return_, 1)]
def inX8_removeAll : List (Nat × Instr × Nat) := [(0, .aload_n 0, 1), (1, .getfield 15, 3), (4, .istore_n 1, 1), (5, .aload_n 0, 1), (6, .iconst 0, 1), (7, .putfield 15, 3), (10, .iload_n 1, 1), (11, .ireturn, 1)]
def inX9_init : List (Nat × Instr × Nat) := [(0, .aload_n 0, 1), (1, .invokespecial 3, 3), (4, .aload_n 0, 1), (5, .new 9, 3), (8, .dup, 1), (9, .invokespecial 11, 3), (12, .putfield 12, 3), (15, .aload_n 0, 1), (16, .new 18, 3), (19, .dup, 1), (20, .invokespecial 20, 3), (23, .putfield 21, 3), (26, .aload_n 0, 1), (27, .bipush 6, 2), (29, .newarray .int, 2), (31, .dup, 1), (32, .iconst 0, 1), (33, .iconst 0, 1), (34, .iastore, 1), (35, .dup, 1), (36, .iconst 1, 1), (37, .iconst 1, 1), (38, .iastore, 1), (39, .dup, 1), (40, .iconst 2, 1), (41, .iconst 2, 1), (42, .iastore, 1), (43, .dup, 1), (44, .iconst 3, 1), (45, .iconst 3, 1), (46, .iastore, 1), (47, .dup, 1), (48, .iconst 4, 1), (49, .iconst 4, 1), (50, .iastore, 1), (51, .dup, 1), (52, .iconst 5, 1), (53, .iconst 5, 1), (54, .iastore, 1), (55, .putfield 25, 3), (58, .return_, 1)]
def inX9_copyFrom : List (Nat × Instr × Nat) := [(0, .aload_n 0, 1), (1, .getfield 12, 3), (4, .aload_n 1, 1), (5, .getfield 12, 3), (8, .invokevirtual 29, 3), (11, .aload_n 0, 1), (12, .getfield 21, 3), (15, .aload_n 1, 1), (16, .getfield 21, 3), (19, .invokevirtual 33, 3), (22, .aload_n 1, 1), (23, .getfield 25, 3), (26, .iconst 0, 1), (27, .aload_n 0, 1), (28, .getfield 25, 3), (31, .iconst 0, 1), (32, .bipush 6, 2), (34, .invokestatic 36, 3), (37, .return_, 1)]
def inX9_signProperty : List (Nat × Instr × Nat) := [(0, .iload_n 2, 1), (1, .iconst 5, 1), (2, .if_icmp .ne 14, 3), (5, .aload_n 0, 1), (6, .getfield 21, 3), (9, .iload_n 1, 1), (10, .invokevirtual 42, 3), (13, .goto 12, 3), (16, .aload_n 0, 1), (17, .getfield 12, 3), (20, .iload_n 1, 1), (21, .iload_n 2, 1), (22, .invokevirtual 46, 3), (25, .ireturn, 1)]
def inX9_sortOfWord : List (Nat × Instr × Nat) := [(0, .aload_n 0, 1), (1, .getfield 12, 3), (4, .aload_n 0, 1), (5, .getfield 21, 3), (8, .iload_n 1, 1), (9, .invokevirtual 50, 3), (12, .iconst 4, 1), (13, .invokevirtual 46, 3), (16, .ireturn, 1)]
def inX9_removeSign : List (Nat × Instr × Nat) := [(0, .aload_n 0, 1), (1, .getfield 12, 3), (4, .iload_n 1, 1), (5, .invokevirtual 53, 3), (8, .ifCond .ne 6, 3), (11, .bipush (-2), 2), (13, .ireturn, 1), (14, .aload_n 0, 1), (15, .getfield 21, 3), (18, .iload_n 1, 1), (19, .invokevirtual 42, 3), (22, .ifCond .le 6, 3), (25, .bipush (-3), 2), (27, .ireturn, 1), (28, .aload_n 0, 1), (29, .getfield 21, 3), (32, .iload_n 1, 1), (33, .invokevirtual 57, 3), (36, .aload_n 0, 1), (37, .getfield 12, 3), (40, .iload_n 1, 1), (41, .invokevirtual 61, 3), (44, .ireturn, 1)]
def inX9_addWord : List (Nat × Instr × Nat) := [(0, .aload_n 0, 1), (1, .getfield 12, 3), (4, .iload_n 1, 1), (5, .invokevirtual 53, 3), (8, .ifCond .eq 21, 3), (11, .iload_n 2, 1), (12, .iconst (-1), 1), (13, .iconst 5, 1), (14, .invokestatic 64, 3), (17, .ifCond .eq 12, 3), (20, .iload_n 3, 1), (21, .iconst (-1), 1), (22, .iconst 5, 1), (23, .invokestatic 64, 3), (26, .ifCond .ne 6, 3), (29, .bipush (-2), 2), (31, .ireturn, 1), (32, .aload_n 0, 1), (33, .getfield 21, 3), (36, .iload_n 1, 1), (37, .iload_n 2, 1), (38, .iload_n 3, 1), (39, .invokevirtual 68, 3), (42, .ireturn, 1)]
def inX9_layOne : List (Nat × Instr × Nat) := [(0, .iload_n 1, 1), (1, .invokestatic 72, 3), (4, .ifCond .eq 12, 3), (7, .iload_n 2, 1), (8, .iconst 0, 1), (9, .iconst 5, 1), (10, .invokestatic 64, 3), (13, .ifCond .ne 6, 3), (16, .bipush (-2), 2), (18, .ireturn, 1), (19, .aload_n 0, 1), (20, .getfield 25, 3), (23, .iload_n 1, 1), (24, .iaload, 1), (25, .istore_n 3, 1), (26, .iconst 0, 1), (27, .istore 4, 2), (29, .iload 4, 2), (31, .bipush 6, 2), (33, .if_icmp .ge 28, 3), (36, .aload_n 0, 1), (37, .getfield 25, 3), (40, .iload 4, 2), (42, .iaload, 1), (43, .iload_n 2, 1), (44, .if_icmp .ne 11, 3), (47, .aload_n 0, 1), (48, .getfield 25, 3), (51, .iload 4, 2), (53, .iload_n 3, 1), (54, .iastore, 1), (55, .iinc 4 1, 3), (58, .goto (-29), 3), (61, .aload_n 0, 1), (62, .getfield 25, 3), (65, .iload_n 1, 1), (66, .iload_n 2, 1), (67, .iastore, 1), (68, .iload_n 3, 1), (69, .ireturn, 1)]
def inX9_layAll : List (Nat × Instr × Nat) := [(0, .iconst 0, 1), (1, .istore_n 3, 1), (2, .iconst 0, 1), (3, .istore 4, 2), (5, .iload 4, 2), (7, .bipush 6, 2), (9, .if_icmp .ge 48, 3), (12, .aload_n 1, 1), (13, .iload_n 2, 1), (14, .iload 4, 2), (16, .invokevirtual 75, 3), (19, .istore 5, 2), (21, .iload 5, 2), (23, .iconst 0, 1), (24, .iconst 5, 1), (25, .invokestatic 64, 3), (28, .ifCond .eq 13, 3), (31, .iload_n 3, 1), (32, .iload 5, 2), (34, .ishr, 1), (35, .iconst 1, 1), (36, .iand, 1), (37, .iconst 1, 1), (38, .if_icmp .ne 6, 3), (41, .bipush (-2), 2), (43, .ireturn, 1), (44, .iload_n 3, 1), (45, .iconst 1, 1), (46, .iload 5, 2), (48, .ishl, 1), (49, .ior, 1), (50, .istore_n 3, 1), (51, .iinc 4 1, 3), (54, .goto (-49), 3), (57, .iconst 0, 1), (58, .istore 4, 2), (60, .iload 4, 2), (62, .bipush 6, 2), (64, .if_icmp .ge 23, 3), (67, .aload_n 0, 1), (68, .getfield 25, 3), (71, .iload 4, 2), (73, .aload_n 1, 1), (74, .iload_n 2, 1), (75, .iload 4, 2), (77, .invokevirtual 75, 3), (80, .iastore, 1), (81, .iinc 4 1, 3), (84, .goto (-24), 3), (87, .iconst 0, 1), (88, .ireturn, 1)]
def inX10_init : List (Nat × Instr × Nat) := [(0, .aload_n 0, 1), (1, .invokespecial 3, 3), (4, .aload_n 0, 1), (5, .iconst 0, 1), (6, .putfield 9, 3), (9, .aload_n 0, 1), (10, .iconst 0, 1), (11, .putfield 15, 3), (14, .return_, 1)]
def inX10_check : List (Nat × Instr × Nat) := [(0, .aload_n 0, 1), (1, .iconst 0, 1), (2, .putfield 9, 3), (5, .aload_n 0, 1), (6, .iconst 0, 1), (7, .putfield 15, 3), (10, .iconst 0, 1), (11, .istore_n 2, 1), (12, .iconst 0, 1), (13, .istore_n 3, 1), (14, .iconst 0, 1), (15, .istore 4, 2), (17, .iload 4, 2), (19, .aload_n 1, 1), (20, .getfield 18, 3), (23, .getfield 24, 3), (26, .if_icmp .ge 69, 3), (29, .aload_n 1, 1), (30, .iload 4, 2), (32, .invokevirtual 29, 3), (35, .istore 5, 2), (37, .iload 5, 2), (39, .iconst 3, 1), (40, .if_icmp .ne 20, 3), (43, .aload_n 0, 1), (44, .dup, 1), (45, .getfield 15, 3), (48, .iload_n 3, 1), (49, .iadd, 1), (50, .putfield 15, 3), (53, .iconst 0, 1), (54, .istore_n 3, 1), (55, .iconst 0, 1), (56, .istore_n 2, 1), (57, .goto 32, 3), (60, .iload 5, 2), (62, .ifCond .ne 24, 3), (65, .aload_n 0, 1), (66, .dup, 1), (67, .getfield 9, 3), (70, .iload_n 2, 1), (71, .iadd, 1), (72, .putfield 9, 3), (75, .iload_n 3, 1), (76, .iconst 1, 1), (77, .iadd, 1), (78, .iload_n 2, 1), (79, .invokestatic 33, 3), (82, .istore_n 3, 1), (83, .goto 6, 3), (86, .iinc 2 1, 3), (89, .iinc 4 1, 3), (92, .goto (-75), 3), (95, .aload_n 0, 1), (96, .dup, 1), (97, .getfield 15, 3), (100, .iload_n 3, 1), (101, .iadd, 1), (102, .putfield 15, 3), (105, .return_, 1)]
def inX11_init : List (Nat × Instr × Nat) := [(0, .aload_n 0, 1), (1, .invokespecial 1, 3), (4, .aload_n 0, 1), (5, .new 7, 3), (8, .dup, 1), (9, .invokespecial 9, 3), (12, .putfield 10, 3), (15, .aload_n 0, 1), (16, .new 16, 3), (19, .dup, 1), (20, .invokespecial 18, 3), (23, .putfield 19, 3), (26, .aload_n 0, 1), (27, .new 23, 3), (30, .dup, 1), (31, .invokespecial 25, 3), (34, .putfield 26, 3), (37, .aload_n 0, 1), (38, .new 30, 3), (41, .dup, 1), (42, .invokespecial 32, 3), (45, .putfield 33, 3), (48, .aload_n 0, 1), (49, .new 37, 3), (52, .dup, 1), (53, .invokespecial 39, 3), (56, .putfield 40, 3), (59, .aload_n 0, 1), (60, .new 44, 3), (63, .dup, 1), (64, .invokespecial 46, 3), (67, .putfield 47, 3), (70, .aload_n 0, 1), (71, .new 51, 3), (74, .dup, 1), (75, .invokespecial 53, 3), (78, .putfield 54, 3), (81, .aload_n 0, 1), (82, .new 58, 3), (85, .dup, 1), (86, .invokespecial 60, 3), (89, .putfield 61, 3), (92, .aload_n 0, 1), (93, .new 65, 3), (96, .dup, 1), (97, .invokespecial 67, 3), (100, .putfield 68, 3), (103, .aload_n 0, 1), (104, .iconst 3, 1), (105, .newarray .int, 2), (107, .putfield 72, 3), (110, .return_, 1)]
def inX11_sign : List (Nat × Instr × Nat) := [(0, .aload_n 0, 1), (1, .getfield 19, 3), (4, .aload_n 0, 1), (5, .getfield 10, 3), (8, .invokevirtual 76, 3), (11, .aload_n 0, 1), (12, .aload_n 0, 1), (13, .getfield 10, 3), (16, .getfield 80, 3), (19, .iload_n 1, 1), (20, .iload_n 2, 1), (21, .iload_n 3, 1), (22, .iload 4, 2), (24, .iload 5, 2), (26, .invokevirtual 84, 3), (29, .invokevirtual 90, 3), (32, .ireturn, 1)]
def inX11_becomes : List (Nat × Instr × Nat) := [(0, .aload_n 0, 1), (1, .getfield 19, 3), (4, .aload_n 0, 1), (5, .getfield 10, 3), (8, .invokevirtual 76, 3), (11, .aload_n 0, 1), (12, .aload_n 0, 1), (13, .getfield 10, 3), (16, .getfield 80, 3), (19, .iload_n 1, 1), (20, .iload_n 2, 1), (21, .iload_n 3, 1), (22, .invokevirtual 94, 3), (25, .invokevirtual 90, 3), (28, .ireturn, 1)]
def inX11_drops : List (Nat × Instr × Nat) := [(0, .aload_n 0, 1), (1, .getfield 19, 3), (4, .aload_n 0, 1), (5, .getfield 10, 3), (8, .invokevirtual 76, 3), (11, .aload_n 0, 1), (12, .aload_n 0, 1), (13, .getfield 10, 3), (16, .iload_n 1, 1), (17, .invokevirtual 98, 3), (20, .invokevirtual 90, 3), (23, .ireturn, 1)]
def inX11_weight : List (Nat × Instr × Nat) := [(0, .aload_n 0, 1), (1, .getfield 19, 3), (4, .aload_n 0, 1), (5, .getfield 10, 3), (8, .invokevirtual 76, 3), (11, .aload_n 0, 1), (12, .aload_n 0, 1), (13, .getfield 10, 3), (16, .getfield 80, 3), (19, .iload_n 1, 1), (20, .iload_n 2, 1), (21, .invokevirtual 101, 3), (24, .invokevirtual 90, 3), (27, .ireturn, 1)]
def inX11_draws : List (Nat × Instr × Nat) := [(0, .aload_n 0, 1), (1, .getfield 19, 3), (4, .aload_n 0, 1), (5, .getfield 10, 3), (8, .invokevirtual 76, 3), (11, .aload_n 0, 1), (12, .aload_n 0, 1), (13, .getfield 10, 3), (16, .getfield 80, 3), (19, .iload_n 1, 1), (20, .iload_n 2, 1), (21, .invokevirtual 105, 3), (24, .invokevirtual 90, 3), (27, .ireturn, 1)]
def inX11_of : List (Nat × Instr × Nat) := [(0, .aload_n 0, 1), (1, .getfield 10, 3), (4, .getfield 80, 3), (7, .iload_n 1, 1), (8, .invokevirtual 108, 3), (11, .ifCond .eq 12, 3), (14, .iload_n 2, 1), (15, .iconst 0, 1), (16, .iconst 5, 1), (17, .invokestatic 112, 3), (20, .ifCond .ne 10, 3), (23, .aload_n 0, 1), (24, .bipush (-2), 2), (26, .invokevirtual 116, 3), (29, .ireturn, 1), (30, .aload_n 0, 1), (31, .getfield 10, 3), (34, .iload_n 1, 1), (35, .iload_n 2, 1), (36, .invokevirtual 119, 3), (39, .ireturn, 1)]
def inX11_apart : List (Nat × Instr × Nat) := [(0, .aload_n 0, 1), (1, .getfield 10, 3), (4, .getfield 80, 3), (7, .iload_n 1, 1), (8, .invokevirtual 108, 3), (11, .ifCond .eq 26, 3), (14, .aload_n 0, 1), (15, .getfield 10, 3), (18, .getfield 80, 3), (21, .iload_n 2, 1), (22, .invokevirtual 108, 3), (25, .ifCond .eq 12, 3), (28, .iload_n 3, 1), (29, .iconst 0, 1), (30, .iconst 4, 1), (31, .invokestatic 112, 3), (34, .ifCond .ne 10, 3), (37, .aload_n 0, 1), (38, .bipush (-2), 2), (40, .invokevirtual 116, 3), (43, .ireturn, 1), (44, .iload_n 3, 1), (45, .iconst 4, 1), (46, .if_icmp .ne 18, 3), (49, .aload_n 0, 1), (50, .getfield 10, 3), (53, .getfield 80, 3), (56, .iload_n 1, 1), (57, .iload_n 2, 1), (58, .invokevirtual 122, 3), (61, .goto 16, 3), (64, .aload_n 0, 1), (65, .getfield 10, 3), (68, .getfield 80, 3), (71, .iload_n 3, 1), (72, .iload_n 1, 1), (73, .iload_n 2, 1), (74, .invokevirtual 125, 3), (77, .ireturn, 1)]
def inX11_look : List (Nat × Instr × Nat) := [(0, .iload_n 1, 1), (1, .iload_n 2, 1), (2, .iload_n 3, 1), (3, .iload 4, 2), (5, .iconst (-1), 1), (6, .invokestatic 128, 3), (9, .ifCond .ne 10, 3), (12, .aload_n 0, 1), (13, .bipush (-2), 2), (15, .invokevirtual 116, 3), (18, .ireturn, 1), (19, .aload_n 0, 1), (20, .getfield 10, 3), (23, .getfield 80, 3), (26, .iload_n 1, 1), (27, .iload_n 2, 1), (28, .iload_n 3, 1), (29, .iload 4, 2), (31, .invokevirtual 132, 3), (34, .aload_n 0, 1), (35, .getfield 10, 3), (38, .getfield 80, 3), (41, .invokevirtual 136, 3), (44, .ireturn, 1)]
def inX11_near : List (Nat × Instr × Nat) := [(0, .aload_n 0, 1), (1, .getfield 10, 3), (4, .getfield 80, 3), (7, .iload_n 1, 1), (8, .invokevirtual 108, 3), (11, .ifCond .eq 13, 3), (14, .iload_n 2, 1), (15, .iconst 0, 1), (16, .bipush 99, 2), (18, .invokestatic 112, 3), (21, .ifCond .ne 10, 3), (24, .aload_n 0, 1), (25, .bipush (-2), 2), (27, .invokevirtual 116, 3), (30, .ireturn, 1), (31, .aload_n 0, 1), (32, .getfield 10, 3), (35, .getfield 80, 3), (38, .iload_n 1, 1), (39, .iload_n 2, 1), (40, .invokevirtual 140, 3), (43, .ireturn, 1)]
def inX11_nearest : List (Nat × Instr × Nat) := [(0, .iload_n 1, 1), (1, .iload_n 2, 1), (2, .iload_n 3, 1), (3, .iload 4, 2), (5, .iconst 0, 1), (6, .invokestatic 128, 3), (9, .ifCond .ne 10, 3), (12, .aload_n 0, 1), (13, .bipush (-2), 2), (15, .invokevirtual 116, 3), (18, .ireturn, 1), (19, .aload_n 0, 1), (20, .getfield 10, 3), (23, .getfield 80, 3), (26, .iload_n 1, 1), (27, .iload_n 2, 1), (28, .iload_n 3, 1), (29, .iload 4, 2), (31, .invokevirtual 132, 3), (34, .aload_n 0, 1), (35, .getfield 10, 3), (38, .getfield 80, 3), (41, .invokevirtual 143, 3), (44, .ireturn, 1)]
def inX11_sorts : List (Nat × Instr × Nat) := [(0, .iload_n 1, 1), (1, .iconst 0, 1), (2, .iconst 3, 1), (3, .invokestatic 112, 3), (6, .ifCond .ne 10, 3), (9, .aload_n 0, 1), (10, .bipush (-2), 2), (12, .invokevirtual 116, 3), (15, .ireturn, 1), (16, .aload_n 0, 1), (17, .getfield 10, 3), (20, .getfield 80, 3), (23, .iload_n 1, 1), (24, .invokevirtual 146, 3), (27, .ireturn, 1)]
def inX11_groups : List (Nat × Instr × Nat) := [(0, .iload_n 1, 1), (1, .iconst 0, 1), (2, .bipush 99, 2), (4, .invokestatic 112, 3), (7, .ifCond .eq 12, 3), (10, .iload_n 2, 1), (11, .iconst 0, 1), (12, .iconst 1, 1), (13, .invokestatic 112, 3), (16, .ifCond .ne 10, 3), (19, .aload_n 0, 1), (20, .bipush (-2), 2), (22, .invokevirtual 116, 3), (25, .ireturn, 1), (26, .aload_n 0, 1), (27, .getfield 61, 3), (30, .aload_n 0, 1), (31, .getfield 10, 3), (34, .getfield 80, 3), (37, .iload_n 1, 1), (38, .invokevirtual 149, 3), (41, .iload_n 2, 1), (42, .ifCond .ne 13, 3), (45, .aload_n 0, 1), (46, .getfield 61, 3), (49, .invokevirtual 153, 3), (52, .goto 10, 3), (55, .aload_n 0, 1), (56, .getfield 61, 3), (59, .invokevirtual 156, 3), (62, .ireturn, 1)]
def inX11_twins : List (Nat × Instr × Nat) := [(0, .iload_n 1, 1), (1, .iconst (-1), 1), (2, .iconst 3, 1), (3, .invokestatic 112, 3), (6, .ifCond .ne 10, 3), (9, .aload_n 0, 1), (10, .bipush (-2), 2), (12, .invokevirtual 116, 3), (15, .ireturn, 1), (16, .aload_n 0, 1), (17, .getfield 68, 3), (20, .aload_n 0, 1), (21, .getfield 10, 3), (24, .getfield 80, 3), (27, .invokevirtual 159, 3), (30, .aload_n 0, 1), (31, .getfield 68, 3), (34, .iload_n 1, 1), (35, .invokevirtual 163, 3), (38, .ireturn, 1)]
def inX11_enough : List (Nat × Instr × Nat) := [(0, .iload_n 1, 1), (1, .iconst (-1), 1), (2, .bipush 15, 2), (4, .invokestatic 112, 3), (7, .ifCond .ne 10, 3), (10, .aload_n 0, 1), (11, .bipush (-2), 2), (13, .invokevirtual 116, 3), (16, .ireturn, 1), (17, .aload_n 0, 1), (18, .getfield 68, 3), (21, .aload_n 0, 1), (22, .getfield 10, 3), (25, .getfield 80, 3), (28, .invokevirtual 159, 3), (31, .iload_n 1, 1), (32, .iconst (-1), 1), (33, .if_icmp .ne 11, 3), (36, .aload_n 0, 1), (37, .getfield 68, 3), (40, .invokevirtual 166, 3), (43, .ireturn, 1), (44, .aload_n 0, 1), (45, .getfield 68, 3), (48, .iload_n 1, 1), (49, .invokevirtual 169, 3), (52, .ifCond .eq 7, 3), (55, .iconst 1, 1), (56, .goto 4, 3), (59, .iconst 0, 1), (60, .ireturn, 1)]
def inX11_span : List (Nat × Instr × Nat) := [(0, .iload_n 1, 1), (1, .iconst 0, 1), (2, .iconst 3, 1), (3, .invokestatic 112, 3), (6, .ifCond .ne 10, 3), (9, .aload_n 0, 1), (10, .bipush (-2), 2), (12, .invokevirtual 116, 3), (15, .ireturn, 1), (16, .iload_n 1, 1), (17, .iconst 2, 1), (18, .irem, 1), (19, .ifCond .ne 7, 3), (22, .iconst 1, 1), (23, .goto 4, 3), (26, .iconst 0, 1), (27, .istore_n 2, 1), (28, .aload_n 0, 1), (29, .getfield 10, 3), (32, .getfield 80, 3), (35, .iload_n 2, 1), (36, .invokevirtual 172, 3), (39, .istore_n 3, 1), (40, .iload_n 3, 1), (41, .iconst (-1), 1), (42, .if_icmp .eq 8, 3), (45, .iload_n 1, 1), (46, .iconst 2, 1), (47, .if_icmp .lt 5, 3), (50, .iload_n 3, 1), (51, .ireturn, 1), (52, .aload_n 0, 1), (53, .getfield 10, 3), (56, .getfield 80, 3), (59, .iload_n 3, 1), (60, .bipush 16, 2), (62, .idiv, 1), (63, .iload_n 3, 1), (64, .bipush 16, 2), (66, .irem, 1), (67, .invokevirtual 122, 3), (70, .ireturn, 1)]
def inX11_word : List (Nat × Instr × Nat) := [(0, .aload_n 0, 1), (1, .getfield 19, 3), (4, .aload_n 0, 1), (5, .getfield 10, 3), (8, .invokevirtual 76, 3), (11, .aload_n 0, 1), (12, .aload_n 0, 1), (13, .getfield 10, 3), (16, .iload_n 1, 1), (17, .iload_n 2, 1), (18, .iload_n 3, 1), (19, .invokevirtual 176, 3), (22, .invokevirtual 90, 3), (25, .ireturn, 1)]
def inX11_cuts : List (Nat × Instr × Nat) := [(0, .aload_n 0, 1), (1, .getfield 19, 3), (4, .aload_n 0, 1), (5, .getfield 10, 3), (8, .invokevirtual 76, 3), (11, .aload_n 0, 1), (12, .aload_n 0, 1), (13, .getfield 10, 3), (16, .getfield 179, 3), (19, .iload_n 1, 1), (20, .invokevirtual 183, 3), (23, .invokevirtual 90, 3), (26, .ireturn, 1)]
def inX11_shifts : List (Nat × Instr × Nat) := [(0, .aload_n 0, 1), (1, .getfield 19, 3), (4, .aload_n 0, 1), (5, .getfield 10, 3), (8, .invokevirtual 76, 3), (11, .aload_n 0, 1), (12, .aload_n 0, 1), (13, .getfield 10, 3), (16, .getfield 179, 3), (19, .iload_n 1, 1), (20, .iload_n 2, 1), (21, .invokevirtual 188, 3), (24, .invokevirtual 90, 3), (27, .ireturn, 1)]
def inX11_clears : List (Nat × Instr × Nat) := [(0, .aload_n 0, 1), (1, .getfield 19, 3), (4, .aload_n 0, 1), (5, .getfield 10, 3), (8, .invokevirtual 76, 3), (11, .aload_n 0, 1), (12, .aload_n 0, 1), (13, .getfield 10, 3), (16, .getfield 179, 3), (19, .invokevirtual 191, 3), (22, .invokevirtual 90, 3), (25, .ireturn, 1)]
def inX11_wordOf : List (Nat × Instr × Nat) := [(0, .aload_n 0, 1), (1, .getfield 10, 3), (4, .getfield 179, 3), (7, .iload_n 1, 1), (8, .invokevirtual 194, 3), (11, .ifCond .eq 13, 3), (14, .iload_n 2, 1), (15, .iconst 0, 1), (16, .bipush 6, 2), (18, .invokestatic 112, 3), (21, .ifCond .ne 10, 3), (24, .aload_n 0, 1), (25, .bipush (-2), 2), (27, .invokevirtual 116, 3), (30, .ireturn, 1), (31, .aload_n 0, 1), (32, .getfield 33, 3), (35, .aload_n 0, 1), (36, .getfield 10, 3), (39, .bipush 16, 2), (41, .invokevirtual 195, 3), (44, .aload_n 0, 1), (45, .iload_n 1, 1), (46, .iload_n 2, 1), (47, .invokevirtual 199, 3), (50, .ireturn, 1)]
def inX11_at : List (Nat × Instr × Nat) := [(0, .iload_n 1, 1), (1, .invokestatic 202, 3), (4, .ifCond .eq 13, 3), (7, .iload_n 2, 1), (8, .iconst 0, 1), (9, .bipush 16, 2), (11, .invokestatic 112, 3), (14, .ifCond .ne 10, 3), (17, .aload_n 0, 1), (18, .bipush (-2), 2), (20, .invokevirtual 116, 3), (23, .ireturn, 1), (24, .aload_n 0, 1), (25, .getfield 33, 3), (28, .aload_n 0, 1), (29, .getfield 10, 3), (32, .iload_n 2, 1), (33, .invokevirtual 195, 3), (36, .aload_n 0, 1), (37, .getfield 33, 3), (40, .iload_n 1, 1), (41, .invokevirtual 205, 3), (44, .ireturn, 1)]
def inX11_all : List (Nat × Instr × Nat) := [(0, .iload_n 1, 1), (1, .iconst 0, 1), (2, .bipush 6, 2), (4, .invokestatic 112, 3), (7, .ifCond .ne 10, 3), (10, .aload_n 0, 1), (11, .bipush (-2), 2), (13, .invokevirtual 116, 3), (16, .ireturn, 1), (17, .aload_n 0, 1), (18, .invokevirtual 208, 3), (21, .aload_n 0, 1), (22, .iload_n 1, 1), (23, .invokevirtual 211, 3), (26, .ireturn, 1)]
def inX11_lays : List (Nat × Instr × Nat) := [(0, .aload_n 0, 1), (1, .getfield 19, 3), (4, .aload_n 0, 1), (5, .getfield 10, 3), (8, .invokevirtual 76, 3), (11, .aload_n 0, 1), (12, .aload_n 0, 1), (13, .getfield 10, 3), (16, .iload_n 1, 1), (17, .iload_n 2, 1), (18, .invokevirtual 214, 3), (21, .invokevirtual 90, 3), (24, .ireturn, 1)]
def inX11_lay : List (Nat × Instr × Nat) := [(0, .iload_n 1, 1), (1, .invokestatic 202, 3), (4, .ifCond .eq 15, 3), (7, .aload_n 0, 1), (8, .getfield 10, 3), (11, .getfield 217, 3), (14, .iload_n 1, 1), (15, .iaload, 1), (16, .goto 9, 3), (19, .aload_n 0, 1), (20, .bipush (-2), 2), (22, .invokevirtual 116, 3), (25, .ireturn, 1)]
def inX11_best : List (Nat × Instr × Nat) := [(0, .iload_n 1, 1), (1, .iconst (-1), 1), (2, .iconst 5, 1), (3, .invokestatic 112, 3), (6, .ifCond .ne 10, 3), (9, .aload_n 0, 1), (10, .bipush (-2), 2), (12, .invokevirtual 116, 3), (15, .ireturn, 1), (16, .aload_n 0, 1), (17, .invokevirtual 220, 3), (20, .iload_n 1, 1), (21, .iconst (-1), 1), (22, .if_icmp .ne 13, 3), (25, .aload_n 0, 1), (26, .getfield 54, 3), (29, .getfield 223, 3), (32, .goto 12, 3), (35, .aload_n 0, 1), (36, .getfield 54, 3), (39, .getfield 227, 3), (42, .iload_n 1, 1), (43, .iaload, 1), (44, .ireturn, 1)]
def inX11_settles : List (Nat × Instr × Nat) := [(0, .aload_n 0, 1), (1, .getfield 19, 3), (4, .aload_n 0, 1), (5, .getfield 10, 3), (8, .invokevirtual 76, 3), (11, .aload_n 0, 1), (12, .invokevirtual 220, 3), (15, .aload_n 0, 1), (16, .getfield 47, 3), (19, .aload_n 0, 1), (20, .getfield 10, 3), (23, .getfield 217, 3), (26, .invokevirtual 230, 3), (29, .istore_n 1, 1), (30, .aload_n 0, 1), (31, .getfield 54, 3), (34, .getfield 227, 3), (37, .iconst 0, 1), (38, .aload_n 0, 1), (39, .getfield 10, 3), (42, .getfield 217, 3), (45, .iconst 0, 1), (46, .bipush 6, 2), (48, .invokestatic 234, 3), (51, .aload_n 0, 1), (52, .iload_n 1, 1), (53, .aload_n 0, 1), (54, .getfield 54, 3), (57, .getfield 223, 3), (60, .isub, 1), (61, .invokevirtual 90, 3), (64, .ireturn, 1)]
def inX11_type : List (Nat × Instr × Nat) := [(0, .aload_n 0, 1), (1, .aload_n 0, 1), (2, .getfield 26, 3), (5, .iload_n 1, 1), (6, .invokevirtual 240, 3), (9, .invokevirtual 116, 3), (12, .ireturn, 1)]
def inX11_clear : List (Nat × Instr × Nat) := [(0, .aload_n 0, 1), (1, .getfield 26, 3), (4, .invokevirtual 243, 3), (7, .ireturn, 1)]
def inX11_reads : List (Nat × Instr × Nat) := [(0, .aload_n 0, 1), (1, .getfield 26, 3), (4, .invokevirtual 246, 3), (7, .istore_n 1, 1), (8, .iload_n 1, 1), (9, .iconst (-1), 1), (10, .if_icmp .eq 8, 3), (13, .bipush (-10), 2), (15, .iload_n 1, 1), (16, .isub, 1), (17, .ireturn, 1), (18, .aload_n 0, 1), (19, .getfield 19, 3), (22, .aload_n 0, 1), (23, .getfield 10, 3), (26, .invokevirtual 76, 3), (29, .iconst 0, 1), (30, .istore_n 2, 1), (31, .iload_n 2, 1), (32, .aload_n 0, 1), (33, .getfield 26, 3), (36, .getfield 249, 3), (39, .if_icmp .ge 34, 3), (42, .aload_n 0, 1), (43, .iload_n 2, 1), (44, .invokevirtual 252, 3), (47, .ifCond .ge 20, 3), (50, .aload_n 0, 1), (51, .getfield 19, 3), (54, .aload_n 0, 1), (55, .getfield 10, 3), (58, .invokevirtual 255, 3), (61, .sipush (-1000), 3), (64, .iload_n 2, 1), (65, .isub, 1), (66, .ireturn, 1), (67, .iinc 2 1, 3), (70, .goto (-39), 3), (73, .aload_n 0, 1), (74, .aload_n 0, 1), (75, .getfield 26, 3), (78, .getfield 249, 3), (81, .invokevirtual 90, 3), (84, .ireturn, 1)]
def inX11_back : List (Nat × Instr × Nat) := [(0, .aload_n 0, 1), (1, .aload_n 0, 1), (2, .getfield 19, 3), (5, .aload_n 0, 1), (6, .getfield 10, 3), (9, .invokevirtual 258, 3), (12, .invokevirtual 116, 3), (15, .ireturn, 1)]
def inX11_told : List (Nat × Instr × Nat) := [(0, .iload_n 1, 1), (1, .iconst 0, 1), (2, .bipush 10, 2), (4, .invokestatic 112, 3), (7, .ifCond .eq 11, 3), (10, .aload_n 0, 1), (11, .iload_n 1, 1), (12, .invokevirtual 262, 3), (15, .goto 9, 3), (18, .aload_n 0, 1), (19, .bipush (-2), 2), (21, .invokevirtual 116, 3), (24, .ireturn, 1)]
def inX11_digest : List (Nat × Instr × Nat) := [(0, .aload_n 0, 1), (1, .invokevirtual 208, 3), (4, .aload_n 0, 1), (5, .invokevirtual 220, 3), (8, .aload_n 0, 1), (9, .getfield 68, 3), (12, .aload_n 0, 1), (13, .getfield 10, 3), (16, .getfield 80, 3), (19, .invokevirtual 159, 3), (22, .ldc2_w 265, 3), (25, .lstore_n 1, 1), (26, .iconst 0, 1), (27, .istore_n 3, 1), (28, .iload_n 3, 1), (29, .bipush 10, 2), (31, .if_icmp .gt 19, 3), (34, .lload_n 1, 1), (35, .aload_n 0, 1), (36, .iload_n 3, 1), (37, .invokevirtual 262, 3), (40, .invokestatic 267, 3), (43, .lstore_n 1, 1), (44, .iinc 3 1, 3), (47, .goto (-19), 3), (50, .aload_n 0, 1), (51, .lload_n 1, 1), (52, .invokevirtual 271, 3), (55, .lstore_n 1, 1), (56, .aload_n 0, 1), (57, .lload_n 1, 1), (58, .invokevirtual 275, 3), (61, .lstore_n 1, 1), (62, .iconst 0, 1), (63, .istore_n 3, 1), (64, .iload_n 3, 1), (65, .bipush 6, 2), (67, .if_icmp .gt 19, 3), (70, .lload_n 1, 1), (71, .aload_n 0, 1), (72, .iload_n 3, 1), (73, .invokevirtual 211, 3), (76, .invokestatic 267, 3), (79, .lstore_n 1, 1), (80, .iinc 3 1, 3), (83, .goto (-19), 3), (86, .iconst 0, 1), (87, .istore_n 3, 1), (88, .iload_n 3, 1), (89, .bipush 6, 2), (91, .if_icmp .ge 23, 3), (94, .lload_n 1, 1), (95, .aload_n 0, 1), (96, .getfield 10, 3), (99, .getfield 217, 3), (102, .iload_n 3, 1), (103, .iaload, 1), (104, .invokestatic 267, 3), (107, .lstore_n 1, 1), (108, .iinc 3 1, 3), (111, .goto (-23), 3), (114, .lload_n 1, 1), (115, .aload_n 0, 1), (116, .getfield 54, 3), (119, .getfield 223, 3), (122, .invokestatic 267, 3), (125, .lstore_n 1, 1), (126, .lload_n 1, 1), (127, .aload_n 0, 1), (128, .getfield 68, 3), (131, .iconst (-1), 1), (132, .invokevirtual 163, 3), (135, .invokestatic 267, 3), (138, .lstore_n 1, 1), (139, .lload_n 1, 1), (140, .aload_n 0, 1), (141, .getfield 68, 3), (144, .invokevirtual 166, 3), (147, .invokestatic 267, 3), (150, .lreturn, 1)]
def inX11_isWithin : List (Nat × Instr × Nat) := [(0, .iload_n 0, 1), (1, .iload_n 1, 1), (2, .if_icmp .lt 12, 3), (5, .iload_n 0, 1), (6, .iload_n 2, 1), (7, .if_icmp .gt 7, 3), (10, .iconst 1, 1), (11, .goto 4, 3), (14, .iconst 0, 1), (15, .ireturn, 1)]
def inX11_areWithin : List (Nat × Instr × Nat) := [(0, .bipush 7, 2), (2, .istore 5, 2), (4, .iload_n 0, 1), (5, .iload 4, 2), (7, .iload 5, 2), (9, .invokestatic 112, 3), (12, .ifCond .eq 40, 3), (15, .iload_n 1, 1), (16, .iload 4, 2), (18, .iload 5, 2), (20, .invokestatic 112, 3), (23, .ifCond .eq 29, 3), (26, .iload_n 2, 1), (27, .iload 4, 2), (29, .iload 5, 2), (31, .invokestatic 112, 3), (34, .ifCond .eq 18, 3), (37, .iload_n 3, 1), (38, .iload 4, 2), (40, .iload 5, 2), (42, .invokestatic 112, 3), (45, .ifCond .eq 7, 3), (48, .iconst 1, 1), (49, .goto 4, 3), (52, .iconst 0, 1), (53, .ireturn, 1)]
def inX11_isSpot : List (Nat × Instr × Nat) := [(0, .iload_n 0, 1), (1, .iconst 0, 1), (2, .iconst 5, 1), (3, .invokestatic 112, 3), (6, .ireturn, 1)]
def inX11_counted : List (Nat × Instr × Nat) := [(0, .bipush (-2), 2), (2, .iload_n 1, 1), (3, .isub, 1), (4, .istore_n 2, 1), (5, .iload_n 2, 1), (6, .iconst 0, 1), (7, .iconst 2, 1), (8, .invokestatic 112, 3), (11, .ifCond .eq 13, 3), (14, .aload_n 0, 1), (15, .getfield 72, 3), (18, .iload_n 2, 1), (19, .dup2, 1), (20, .iaload, 1), (21, .iconst 1, 1), (22, .iadd, 1), (23, .iastore, 1), (24, .iload_n 1, 1), (25, .ireturn, 1)]
def inX11_undoable : List (Nat × Instr × Nat) := [(0, .iload_n 1, 1), (1, .ifCond .lt 10, 3), (4, .aload_n 0, 1), (5, .getfield 19, 3), (8, .invokevirtual 278, 3), (11, .aload_n 0, 1), (12, .iload_n 1, 1), (13, .invokevirtual 116, 3), (16, .ireturn, 1)]
def inX11_execute : List (Nat × Instr × Nat) := [(0, .aload_n 0, 1), (1, .getfield 26, 3), (4, .iload_n 1, 1), (5, .iconst 0, 1), (6, .invokevirtual 281, 3), (9, .istore_n 2, 1), (10, .aload_n 0, 1), (11, .getfield 26, 3), (14, .iload_n 1, 1), (15, .iconst 1, 1), (16, .invokevirtual 281, 3), (19, .istore_n 3, 1), (20, .aload_n 0, 1), (21, .getfield 26, 3), (24, .iload_n 1, 1), (25, .iconst 2, 1), (26, .invokevirtual 281, 3), (29, .istore 4, 2), (31, .aload_n 0, 1), (32, .getfield 26, 3), (35, .iload_n 1, 1), (36, .invokevirtual 283, 3), (39, .lookupswitch 173 #[(99, 162), (100, 153), (103, 127), (108, 140), (115, 57), (119, 90)], 57), (96, .aload_n 0, 1), (97, .getfield 10, 3), (100, .getfield 80, 3), (103, .iload_n 2, 1), (104, .iload_n 3, 1), (105, .iload 4, 2), (107, .aload_n 0, 1), (108, .getfield 26, 3), (111, .iload_n 1, 1), (112, .iconst 3, 1), (113, .invokevirtual 281, 3), (116, .aload_n 0, 1), (117, .getfield 26, 3), (120, .iload_n 1, 1), (121, .iconst 4, 1), (122, .invokevirtual 281, 3), (125, .invokevirtual 84, 3), (128, .ireturn, 1), (129, .aload_n 0, 1), (130, .getfield 26, 3), (133, .iload_n 1, 1), (134, .invokevirtual 286, 3), (137, .iconst 2, 1), (138, .if_icmp .ne 16, 3), (141, .aload_n 0, 1), (142, .getfield 10, 3), (145, .iload_n 2, 1), (146, .iconst (-1), 1), (147, .iload_n 3, 1), (148, .invokevirtual 176, 3), (151, .goto 14, 3), (154, .aload_n 0, 1), (155, .getfield 10, 3), (158, .iload_n 2, 1), (159, .iload_n 3, 1), (160, .iload 4, 2), (162, .invokevirtual 176, 3), (165, .ireturn, 1), (166, .aload_n 0, 1), (167, .getfield 10, 3), (170, .getfield 80, 3), (173, .iload_n 2, 1), (174, .iload_n 3, 1), (175, .invokevirtual 101, 3), (178, .ireturn, 1), (179, .aload_n 0, 1), (180, .getfield 10, 3), (183, .aload_n 0, 1), (184, .getfield 26, 3), (187, .iload_n 1, 1), (188, .invokevirtual 289, 3), (191, .ireturn, 1), (192, .aload_n 0, 1), (193, .getfield 10, 3), (196, .iload_n 2, 1), (197, .invokevirtual 98, 3), (200, .ireturn, 1), (201, .aload_n 0, 1), (202, .getfield 10, 3), (205, .getfield 179, 3), (208, .invokevirtual 191, 3), (211, .ireturn, 1), (212, .bipush (-2), 2), (214, .ireturn, 1)]
def inX11_examineSentence : List (Nat × Instr × Nat) := [(0, .aload_n 0, 1), (1, .getfield 33, 3), (4, .aload_n 0, 1), (5, .getfield 10, 3), (8, .bipush 16, 2), (10, .invokevirtual 195, 3), (13, .aload_n 0, 1), (14, .getfield 40, 3), (17, .aload_n 0, 1), (18, .getfield 10, 3), (21, .invokevirtual 293, 3), (24, .aload_n 0, 1), (25, .getfield 47, 3), (28, .aload_n 0, 1), (29, .getfield 10, 3), (32, .getfield 179, 3), (35, .invokevirtual 296, 3), (38, .return_, 1)]
def inX11_findBestArrangement : List (Nat × Instr × Nat) := [(0, .aload_n 0, 1), (1, .getfield 47, 3), (4, .aload_n 0, 1), (5, .getfield 10, 3), (8, .getfield 179, 3), (11, .invokevirtual 296, 3), (14, .aload_n 0, 1), (15, .getfield 54, 3), (18, .aload_n 0, 1), (19, .getfield 47, 3), (22, .invokevirtual 300, 3), (25, .return_, 1)]
def inX11_wordProperty : List (Nat × Instr × Nat) := [(0, .iload_n 2, 1), (1, .tableswitch 113 0 5 #[39, 51, 63, 75, 85, 103], 39), (40, .aload_n 0, 1), (41, .getfield 10, 3), (44, .getfield 179, 3), (47, .iload_n 1, 1), (48, .invokevirtual 304, 3), (51, .ireturn, 1), (52, .aload_n 0, 1), (53, .getfield 10, 3), (56, .getfield 179, 3), (59, .iload_n 1, 1), (60, .invokevirtual 307, 3), (63, .ireturn, 1), (64, .aload_n 0, 1), (65, .getfield 10, 3), (68, .getfield 179, 3), (71, .iload_n 1, 1), (72, .invokevirtual 310, 3), (75, .ireturn, 1), (76, .aload_n 0, 1), (77, .getfield 33, 3), (80, .getfield 313, 3), (83, .iload_n 1, 1), (84, .iaload, 1), (85, .ireturn, 1), (86, .aload_n 0, 1), (87, .getfield 33, 3), (90, .getfield 316, 3), (93, .iload_n 1, 1), (94, .baload, 1), (95, .ifCond .eq 7, 3), (98, .iconst 1, 1), (99, .goto 4, 3), (102, .iconst 0, 1), (103, .ireturn, 1), (104, .aload_n 0, 1), (105, .getfield 33, 3), (108, .getfield 320, 3), (111, .iload_n 1, 1), (112, .iaload, 1), (113, .ireturn, 1), (114, .aload_n 0, 1), (115, .getfield 33, 3), (118, .getfield 323, 3), (121, .iload_n 1, 1), (122, .iaload, 1), (123, .ireturn, 1)]
def inX11_sentenceProperty : List (Nat × Instr × Nat) := [(0, .iload_n 1, 1), (1, .tableswitch 97 0 5 #[39, 50, 58, 66, 74, 82], 39), (40, .aload_n 0, 1), (41, .getfield 10, 3), (44, .getfield 179, 3), (47, .getfield 326, 3), (50, .ireturn, 1), (51, .aload_n 0, 1), (52, .getfield 33, 3), (55, .getfield 329, 3), (58, .ireturn, 1), (59, .aload_n 0, 1), (60, .getfield 33, 3), (63, .getfield 332, 3), (66, .ireturn, 1), (67, .aload_n 0, 1), (68, .getfield 40, 3), (71, .getfield 335, 3), (74, .ireturn, 1), (75, .aload_n 0, 1), (76, .getfield 40, 3), (79, .getfield 338, 3), (82, .ireturn, 1), (83, .aload_n 0, 1), (84, .getfield 47, 3), (87, .aload_n 0, 1), (88, .getfield 10, 3), (91, .getfield 217, 3), (94, .invokevirtual 230, 3), (97, .ireturn, 1), (98, .aload_n 0, 1), (99, .getfield 47, 3), (102, .invokevirtual 341, 3), (105, .ireturn, 1)]
def inX11_figure : List (Nat × Instr × Nat) := [(0, .iload_n 1, 1), (1, .iconst 0, 1), (2, .iconst 2, 1), (3, .invokestatic 112, 3), (6, .ifCond .eq 10, 3), (9, .aload_n 0, 1), (10, .getfield 72, 3), (13, .iload_n 1, 1), (14, .iaload, 1), (15, .ireturn, 1), (16, .iload_n 1, 1), (17, .tableswitch 69 3 6 #[31, 39, 50, 61], 31), (48, .aload_n 0, 1), (49, .getfield 26, 3), (52, .getfield 344, 3), (55, .ireturn, 1), (56, .aload_n 0, 1), (57, .getfield 10, 3), (60, .getfield 80, 3), (63, .getfield 347, 3), (66, .ireturn, 1), (67, .aload_n 0, 1), (68, .getfield 10, 3), (71, .getfield 179, 3), (74, .getfield 326, 3), (77, .ireturn, 1), (78, .aload_n 0, 1), (79, .getfield 19, 3), (82, .getfield 348, 3), (85, .ireturn, 1), (86, .aload_n 0, 1), (87, .getfield 10, 3), (90, .getfield 80, 3), (93, .iload_n 1, 1), (94, .bipush 7, 2), (96, .isub, 1), (97, .invokevirtual 349, 3), (100, .ireturn, 1)]
def inX11_mixed : List (Nat × Instr × Nat) := [(0, .ldc2_w 352, 3), (3, .lload_n 0, 1), (4, .lmul, 1), (5, .iload_n 2, 1), (6, .i2l, 1), (7, .ladd, 1), (8, .lreturn, 1)]
def inX11_withSigns : List (Nat × Instr × Nat) := [(0, .lload_n 1, 1), (1, .lstore_n 3, 1), (2, .iconst 0, 1), (3, .istore 5, 2), (5, .iload 5, 2), (7, .aload_n 0, 1), (8, .getfield 10, 3), (11, .getfield 80, 3), (14, .getfield 347, 3), (17, .if_icmp .ge 40, 3), (20, .iconst 0, 1), (21, .istore 6, 2), (23, .iload 6, 2), (25, .iconst 5, 1), (26, .if_icmp .gt 25, 3), (29, .lload_n 3, 1), (30, .aload_n 0, 1), (31, .getfield 10, 3), (34, .iload 5, 2), (36, .iload 6, 2), (38, .invokevirtual 119, 3), (41, .invokestatic 267, 3), (44, .lstore_n 3, 1), (45, .iinc 6 1, 3), (48, .goto (-25), 3), (51, .iinc 5 1, 3), (54, .goto (-49), 3), (57, .lload_n 3, 1), (58, .lreturn, 1)]
def inX11_withWords : List (Nat × Instr × Nat) := [(0, .lload_n 1, 1), (1, .lstore_n 3, 1), (2, .iconst 0, 1), (3, .istore 5, 2), (5, .iload 5, 2), (7, .aload_n 0, 1), (8, .getfield 10, 3), (11, .getfield 179, 3), (14, .getfield 326, 3), (17, .if_icmp .ge 38, 3), (20, .iconst 0, 1), (21, .istore 6, 2), (23, .iload 6, 2), (25, .bipush 6, 2), (27, .if_icmp .gt 22, 3), (30, .lload_n 3, 1), (31, .aload_n 0, 1), (32, .iload 5, 2), (34, .iload 6, 2), (36, .invokevirtual 199, 3), (39, .invokestatic 267, 3), (42, .lstore_n 3, 1), (43, .iinc 6 1, 3), (46, .goto (-23), 3), (49, .iinc 5 1, 3), (52, .goto (-47), 3), (55, .lload_n 3, 1), (56, .lreturn, 1)]
def inX12_init : List (Nat × Instr × Nat) := [(0, .aload_n 0, 1), (1, .invokespecial 1, 3), (4, .aload_n 0, 1), (5, .sipush 1120, 3), (8, .newarray .int, 2), (10, .putfield 7, 3), (13, .aload_n 0, 1), (14, .iconst 3, 1), (15, .newarray .int, 2), (17, .putfield 13, 3), (20, .aload_n 0, 1), (21, .bipush 120, 2), (23, .newarray .int, 2), (25, .putfield 16, 3), (28, .aload_n 0, 1), (29, .bipush 6, 2), (31, .newarray .int, 2), (33, .putfield 19, 3), (36, .aload_n 0, 1), (37, .bipush 6, 2), (39, .newarray .int, 2), (41, .putfield 22, 3), (44, .aload_n 0, 1), (45, .bipush 60, 2), (47, .newarray .int, 2), (49, .putfield 25, 3), (52, .aload_n 0, 1), (53, .bipush 60, 2), (55, .newarray .int, 2), (57, .putfield 28, 3), (60, .aload_n 0, 1), (61, .sipush 360, 3), (64, .newarray .int, 2), (66, .putfield 31, 3), (69, .iconst 0, 1), (70, .istore_n 1, 1), (71, .iload_n 1, 1), (72, .iconst 4, 1), (73, .if_icmp .ge 20, 3), (76, .aload_n 0, 1), (77, .getfield 7, 3), (80, .sipush 130, 3), (83, .iload_n 1, 1), (84, .iadd, 1), (85, .iconst 1, 1), (86, .iastore, 1), (87, .iinc 1 1, 3), (90, .goto (-19), 3), (93, .iconst 0, 1), (94, .istore_n 1, 1), (95, .iload_n 1, 1), (96, .bipush 6, 2), (98, .if_icmp .ge 20, 3), (101, .aload_n 0, 1), (102, .getfield 7, 3), (105, .sipush 134, 3), (108, .iload_n 1, 1), (109, .iadd, 1), (110, .iload_n 1, 1), (111, .iastore, 1), (112, .iinc 1 1, 3), (115, .goto (-20), 3), (118, .return_, 1)]
def inX12_in : List (Nat × Instr × Nat) := [(0, .lload_n 0, 1), (1, .lload_n 2, 1), (2, .lcmp, 1), (3, .ifCond .lt 14, 3), (6, .lload_n 0, 1), (7, .lload 4, 2), (9, .lcmp, 1), (10, .ifCond .gt 7, 3), (13, .iconst 1, 1), (14, .goto 4, 3), (17, .iconst 0, 1), (18, .ireturn, 1)]
def inX12_has : List (Nat × Instr × Nat) := [(0, .iload_n 0, 1), (1, .iload_n 1, 1), (2, .ishr, 1), (3, .iconst 1, 1), (4, .iand, 1), (5, .iconst 1, 1), (6, .if_icmp .ne 7, 3), (9, .iconst 1, 1), (10, .goto 4, 3), (13, .iconst 0, 1), (14, .ireturn, 1)]
def inX12_off : List (Nat × Instr × Nat) := [(0, .iload_n 0, 1), (1, .iload_n 1, 1), (2, .if_icmp .ge 9, 3), (5, .iload_n 1, 1), (6, .iload_n 0, 1), (7, .isub, 1), (8, .goto 6, 3), (11, .iload_n 0, 1), (12, .iload_n 1, 1), (13, .isub, 1), (14, .ireturn, 1)]
def inX12_refuses : List (Nat × Instr × Nat) := [(0, .aload_n 0, 1), (1, .getfield 13, 3), (4, .bipush (-2), 2), (6, .iload_n 1, 1), (7, .isub, 1), (8, .dup2, 1), (9, .iaload, 1), (10, .iconst 1, 1), (11, .iadd, 1), (12, .iastore, 1), (13, .iload_n 1, 1), (14, .ireturn, 1)]
def inX12_copy : List (Nat × Instr × Nat) := [(0, .iconst 0, 1), (1, .istore_n 3, 1), (2, .iload_n 3, 1), (3, .sipush 140, 3), (6, .if_icmp .ge 25, 3), (9, .aload_n 0, 1), (10, .getfield 7, 3), (13, .iload_n 2, 1), (14, .iload_n 3, 1), (15, .iadd, 1), (16, .aload_n 0, 1), (17, .getfield 7, 3), (20, .iload_n 1, 1), (21, .iload_n 3, 1), (22, .iadd, 1), (23, .iaload, 1), (24, .iastore, 1), (25, .iinc 3 1, 3), (28, .goto (-26), 3), (31, .return_, 1)]
def inX12_minds : List (Nat × Instr × Nat) := [(0, .aload_n 0, 1), (1, .getfield 34, 3), (4, .iconst 5, 1), (5, .if_icmp .ne 48, 3), (8, .iconst 0, 1), (9, .istore_n 1, 1), (10, .iload_n 1, 1), (11, .sipush 560, 3), (14, .if_icmp .ge 29, 3), (17, .aload_n 0, 1), (18, .getfield 7, 3), (21, .sipush 140, 3), (24, .iload_n 1, 1), (25, .iadd, 1), (26, .aload_n 0, 1), (27, .getfield 7, 3), (30, .sipush 280, 3), (33, .iload_n 1, 1), (34, .iadd, 1), (35, .iaload, 1), (36, .iastore, 1), (37, .iinc 1 1, 3), (40, .goto (-30), 3), (43, .aload_n 0, 1), (44, .dup, 1), (45, .getfield 34, 3), (48, .iconst 1, 1), (49, .isub, 1), (50, .putfield 34, 3), (53, .aload_n 0, 1), (54, .iconst 0, 1), (55, .sipush 140, 3), (58, .sipush 140, 3), (61, .aload_n 0, 1), (62, .getfield 34, 3), (65, .imul, 1), (66, .iadd, 1), (67, .invokevirtual 38, 3), (70, .aload_n 0, 1), (71, .dup, 1), (72, .getfield 34, 3), (75, .iconst 1, 1), (76, .iadd, 1), (77, .putfield 34, 3), (80, .return_, 1)]
def inX12_isSign : List (Nat × Instr × Nat) := [(0, .iload_n 1, 1), (1, .i2l, 1), (2, .lconst 0, 1), (3, .aload_n 0, 1), (4, .getfield 7, 3), (7, .iconst 0, 1), (8, .iaload, 1), (9, .iconst 1, 1), (10, .isub, 1), (11, .i2l, 1), (12, .invokestatic 42, 3), (15, .ireturn, 1)]
def inX12_part : List (Nat × Instr × Nat) := [(0, .aload_n 0, 1), (1, .getfield 7, 3), (4, .iconst 2, 1), (5, .iconst 5, 1), (6, .iload_n 1, 1), (7, .imul, 1), (8, .iadd, 1), (9, .iload_n 2, 1), (10, .iadd, 1), (11, .iaload, 1), (12, .ireturn, 1)]
def inX12_isPart : List (Nat × Instr × Nat) := [(0, .iload_n 0, 1), (1, .i2l, 1), (2, .lconst 0, 1), (3, .ldc2_w 46, 3), (6, .invokestatic 42, 3), (9, .ireturn, 1)]
def inX12_areParts : List (Nat × Instr × Nat) := [(0, .iload_n 0, 1), (1, .invokestatic 48, 3), (4, .ifCond .eq 28, 3), (7, .iload_n 1, 1), (8, .invokestatic 48, 3), (11, .ifCond .eq 21, 3), (14, .iload_n 2, 1), (15, .invokestatic 48, 3), (18, .ifCond .eq 14, 3), (21, .iload_n 3, 1), (22, .invokestatic 48, 3), (25, .ifCond .eq 7, 3), (28, .iconst 1, 1), (29, .goto 4, 3), (32, .iconst 0, 1), (33, .ireturn, 1)]
def inX12_signOf : List (Nat × Instr × Nat) := [(0, .iconst 0, 1), (1, .istore 6, 2), (3, .iload 6, 2), (5, .aload_n 0, 1), (6, .getfield 7, 3), (9, .iconst 0, 1), (10, .iaload, 1), (11, .if_icmp .ge 64, 3), (14, .iload 6, 2), (16, .iload 5, 2), (18, .if_icmp .eq 51, 3), (21, .aload_n 0, 1), (22, .iload 6, 2), (24, .iconst 0, 1), (25, .invokevirtual 52, 3), (28, .iload_n 1, 1), (29, .if_icmp .ne 40, 3), (32, .aload_n 0, 1), (33, .iload 6, 2), (35, .iconst 1, 1), (36, .invokevirtual 52, 3), (39, .iload_n 2, 1), (40, .if_icmp .ne 29, 3), (43, .aload_n 0, 1), (44, .iload 6, 2), (46, .iconst 2, 1), (47, .invokevirtual 52, 3), (50, .iload_n 3, 1), (51, .if_icmp .ne 18, 3), (54, .aload_n 0, 1), (55, .iload 6, 2), (57, .iconst 3, 1), (58, .invokevirtual 52, 3), (61, .iload 4, 2), (63, .if_icmp .ne 6, 3), (66, .iload 6, 2), (68, .ireturn, 1), (69, .iinc 6 1, 3), (72, .goto (-69), 3), (75, .iconst (-1), 1), (76, .ireturn, 1)]
def inX12_canSign : List (Nat × Instr × Nat) := [(0, .iload_n 1, 1), (1, .iload_n 2, 1), (2, .iload_n 3, 1), (3, .iload 4, 2), (5, .invokestatic 56, 3), (8, .ifCond .eq 16, 3), (11, .iload 5, 2), (13, .i2l, 1), (14, .lconst 0, 1), (15, .ldc2_w 60, 3), (18, .invokestatic 42, 3), (21, .ifCond .ne 6, 3), (24, .bipush (-2), 2), (26, .ireturn, 1), (27, .aload_n 0, 1), (28, .iload_n 1, 1), (29, .iload_n 2, 1), (30, .iload_n 3, 1), (31, .iload 4, 2), (33, .iconst (-1), 1), (34, .invokevirtual 62, 3), (37, .iconst (-1), 1), (38, .if_icmp .eq 8, 3), (41, .bipush (-3), 2), (43, .goto 20, 3), (46, .aload_n 0, 1), (47, .getfield 7, 3), (50, .iconst 0, 1), (51, .iaload, 1), (52, .bipush 16, 2), (54, .if_icmp .ne 8, 3), (57, .bipush (-4), 2), (59, .goto 4, 3), (62, .iconst 0, 1), (63, .ireturn, 1)]
def inX12_adds : List (Nat × Instr × Nat) := [(0, .iconst 2, 1), (1, .iconst 5, 1), (2, .aload_n 0, 1), (3, .getfield 7, 3), (6, .iconst 0, 1), (7, .iaload, 1), (8, .imul, 1), (9, .iadd, 1), (10, .istore 6, 2), (12, .aload_n 0, 1), (13, .getfield 7, 3), (16, .iload 6, 2), (18, .iload_n 1, 1), (19, .iastore, 1), (20, .aload_n 0, 1), (21, .getfield 7, 3), (24, .iload 6, 2), (26, .iconst 1, 1), (27, .iadd, 1), (28, .iload_n 2, 1), (29, .iastore, 1), (30, .aload_n 0, 1), (31, .getfield 7, 3), (34, .iload 6, 2), (36, .iconst 2, 1), (37, .iadd, 1), (38, .iload_n 3, 1), (39, .iastore, 1), (40, .aload_n 0, 1), (41, .getfield 7, 3), (44, .iload 6, 2), (46, .iconst 3, 1), (47, .iadd, 1), (48, .iload 4, 2), (50, .iastore, 1), (51, .aload_n 0, 1), (52, .getfield 7, 3), (55, .iload 6, 2), (57, .iconst 4, 1), (58, .iadd, 1), (59, .iload 5, 2), (61, .iastore, 1), (62, .aload_n 0, 1), (63, .getfield 7, 3), (66, .iconst 0, 1), (67, .dup2, 1), (68, .iaload, 1), (69, .iconst 1, 1), (70, .iadd, 1), (71, .iastore, 1), (72, .aload_n 0, 1), (73, .getfield 7, 3), (76, .iconst 0, 1), (77, .iaload, 1), (78, .iconst 1, 1), (79, .isub, 1), (80, .ireturn, 1)]
def inX12_sign : List (Nat × Instr × Nat) := [(0, .aload_n 0, 1), (1, .iload_n 1, 1), (2, .iload_n 2, 1), (3, .iload_n 3, 1), (4, .iload 4, 2), (6, .iload 5, 2), (8, .invokevirtual 66, 3), (11, .istore 6, 2), (13, .iload 6, 2), (15, .ifCond .ge 10, 3), (18, .aload_n 0, 1), (19, .iload 6, 2), (21, .invokevirtual 69, 3), (24, .ireturn, 1), (25, .aload_n 0, 1), (26, .invokevirtual 73, 3), (29, .aload_n 0, 1), (30, .iload_n 1, 1), (31, .iload_n 2, 1), (32, .iload_n 3, 1), (33, .iload 4, 2), (35, .iload 5, 2), (37, .invokevirtual 76, 3), (40, .ireturn, 1)]
def inX12_becomes : List (Nat × Instr × Nat) := [(0, .aload_n 0, 1), (1, .iload_n 1, 1), (2, .invokevirtual 79, 3), (5, .ifCond .eq 38, 3), (8, .iload_n 2, 1), (9, .i2l, 1), (10, .lconst 0, 1), (11, .ldc2_w 82, 3), (14, .invokestatic 42, 3), (17, .ifCond .eq 26, 3), (20, .iload_n 3, 1), (21, .i2l, 1), (22, .lconst 0, 1), (23, .iload_n 2, 1), (24, .iconst 4, 1), (25, .if_icmp .ne 9, 3), (28, .ldc2_w 60, 3), (31, .goto 6, 3), (34, .ldc2_w 46, 3), (37, .invokestatic 42, 3), (40, .ifCond .ne 10, 3), (43, .aload_n 0, 1), (44, .bipush (-2), 2), (46, .invokevirtual 69, 3), (49, .ireturn, 1), (50, .aload_n 0, 1), (51, .iload_n 1, 1), (52, .iload_n 2, 1), (53, .invokevirtual 52, 3), (56, .istore 4, 2), (58, .aload_n 0, 1), (59, .getfield 7, 3), (62, .iconst 2, 1), (63, .iconst 5, 1), (64, .iload_n 1, 1), (65, .imul, 1), (66, .iadd, 1), (67, .iload_n 2, 1), (68, .iadd, 1), (69, .iload_n 3, 1), (70, .iastore, 1), (71, .aload_n 0, 1), (72, .aload_n 0, 1), (73, .iload_n 1, 1), (74, .iconst 0, 1), (75, .invokevirtual 52, 3), (78, .aload_n 0, 1), (79, .iload_n 1, 1), (80, .iconst 1, 1), (81, .invokevirtual 52, 3), (84, .aload_n 0, 1), (85, .iload_n 1, 1), (86, .iconst 2, 1), (87, .invokevirtual 52, 3), (90, .aload_n 0, 1), (91, .iload_n 1, 1), (92, .iconst 3, 1), (93, .invokevirtual 52, 3), (96, .iload_n 1, 1), (97, .invokevirtual 62, 3), (100, .iconst (-1), 1), (101, .if_icmp .ne 7, 3), (104, .iconst 1, 1), (105, .goto 4, 3), (108, .iconst 0, 1), (109, .istore 5, 2), (111, .aload_n 0, 1), (112, .getfield 7, 3), (115, .iconst 2, 1), (116, .iconst 5, 1), (117, .iload_n 1, 1), (118, .imul, 1), (119, .iadd, 1), (120, .iload_n 2, 1), (121, .iadd, 1), (122, .iload 4, 2), (124, .iastore, 1), (125, .iload 5, 2), (127, .ifCond .ne 10, 3), (130, .aload_n 0, 1), (131, .bipush (-3), 2), (133, .invokevirtual 69, 3), (136, .ireturn, 1), (137, .aload_n 0, 1), (138, .invokevirtual 73, 3), (141, .aload_n 0, 1), (142, .getfield 7, 3), (145, .iconst 2, 1), (146, .iconst 5, 1), (147, .iload_n 1, 1), (148, .imul, 1), (149, .iadd, 1), (150, .iload_n 2, 1), (151, .iadd, 1), (152, .iload_n 3, 1), (153, .iastore, 1), (154, .iload 4, 2), (156, .ireturn, 1)]
def inX12_wordsWith : List (Nat × Instr × Nat) := [(0, .iconst 0, 1), (1, .istore_n 2, 1), (2, .iconst 0, 1), (3, .istore_n 3, 1), (4, .iload_n 3, 1), (5, .aload_n 0, 1), (6, .getfield 7, 3), (9, .iconst 1, 1), (10, .iaload, 1), (11, .if_icmp .ge 32, 3), (14, .iload_n 2, 1), (15, .aload_n 0, 1), (16, .getfield 7, 3), (19, .bipush 82, 2), (21, .iconst 3, 1), (22, .iload_n 3, 1), (23, .imul, 1), (24, .iadd, 1), (25, .iaload, 1), (26, .iload_n 1, 1), (27, .if_icmp .ne 7, 3), (30, .iconst 1, 1), (31, .goto 4, 3), (34, .iconst 0, 1), (35, .iadd, 1), (36, .istore_n 2, 1), (37, .iinc 3 1, 3), (40, .goto (-36), 3), (43, .iload_n 2, 1), (44, .ireturn, 1)]
def inX12_canDrop : List (Nat × Instr × Nat) := [(0, .aload_n 0, 1), (1, .iload_n 1, 1), (2, .invokevirtual 79, 3), (5, .ifCond .ne 8, 3), (8, .bipush (-2), 2), (10, .goto 17, 3), (13, .aload_n 0, 1), (14, .iload_n 1, 1), (15, .invokevirtual 84, 3), (18, .ifCond .le 8, 3), (21, .bipush (-3), 2), (23, .goto 4, 3), (26, .iconst 0, 1), (27, .ireturn, 1)]
def inX12_goes : List (Nat × Instr × Nat) := [(0, .aload_n 0, 1), (1, .getfield 7, 3), (4, .iconst 0, 1), (5, .dup2, 1), (6, .iaload, 1), (7, .iconst 1, 1), (8, .isub, 1), (9, .iastore, 1), (10, .iconst 2, 1), (11, .iconst 5, 1), (12, .iload_n 1, 1), (13, .imul, 1), (14, .iadd, 1), (15, .istore_n 2, 1), (16, .iload_n 2, 1), (17, .iconst 2, 1), (18, .iconst 5, 1), (19, .aload_n 0, 1), (20, .getfield 7, 3), (23, .iconst 0, 1), (24, .iaload, 1), (25, .imul, 1), (26, .iadd, 1), (27, .if_icmp .ge 23, 3), (30, .aload_n 0, 1), (31, .getfield 7, 3), (34, .iload_n 2, 1), (35, .aload_n 0, 1), (36, .getfield 7, 3), (39, .iload_n 2, 1), (40, .iconst 5, 1), (41, .iadd, 1), (42, .iaload, 1), (43, .iastore, 1), (44, .iinc 2 1, 3), (47, .goto (-31), 3), (50, .iconst 0, 1), (51, .istore_n 2, 1), (52, .iload_n 2, 1), (53, .aload_n 0, 1), (54, .getfield 7, 3), (57, .iconst 1, 1), (58, .iaload, 1), (59, .if_icmp .ge 43, 3), (62, .aload_n 0, 1), (63, .getfield 7, 3), (66, .bipush 82, 2), (68, .iconst 3, 1), (69, .iload_n 2, 1), (70, .imul, 1), (71, .iadd, 1), (72, .dup2, 1), (73, .iaload, 1), (74, .aload_n 0, 1), (75, .getfield 7, 3), (78, .bipush 82, 2), (80, .iconst 3, 1), (81, .iload_n 2, 1), (82, .imul, 1), (83, .iadd, 1), (84, .iaload, 1), (85, .iload_n 1, 1), (86, .if_icmp .le 7, 3), (89, .iconst 1, 1), (90, .goto 4, 3), (93, .iconst 0, 1), (94, .isub, 1), (95, .iastore, 1), (96, .iinc 2 1, 3), (99, .goto (-47), 3), (102, .aload_n 0, 1), (103, .getfield 7, 3), (106, .iconst 0, 1), (107, .iaload, 1), (108, .ireturn, 1)]
def inX12_drops : List (Nat × Instr × Nat) := [(0, .aload_n 0, 1), (1, .iload_n 1, 1), (2, .invokevirtual 87, 3), (5, .istore_n 2, 1), (6, .iload_n 2, 1), (7, .ifCond .ge 9, 3), (10, .aload_n 0, 1), (11, .iload_n 2, 1), (12, .invokevirtual 69, 3), (15, .ireturn, 1), (16, .aload_n 0, 1), (17, .invokevirtual 73, 3), (20, .aload_n 0, 1), (21, .iload_n 1, 1), (22, .invokevirtual 90, 3), (25, .ireturn, 1)]
def inX12_isWeight : List (Nat × Instr × Nat) := [(0, .iload_n 0, 1), (1, .i2l, 1), (2, .lconst 0, 1), (3, .ldc2_w 60, 3), (6, .invokestatic 42, 3), (9, .ifCond .eq 19, 3), (12, .iload_n 1, 1), (13, .i2l, 1), (14, .lconst 0, 1), (15, .ldc2_w 93, 3), (18, .invokestatic 42, 3), (21, .ifCond .eq 7, 3), (24, .iconst 1, 1), (25, .goto 4, 3), (28, .iconst 0, 1), (29, .ireturn, 1)]
def inX12_weight : List (Nat × Instr × Nat) := [(0, .iload_n 1, 1), (1, .iload_n 2, 1), (2, .invokestatic 95, 3), (5, .ifCond .ne 10, 3), (8, .aload_n 0, 1), (9, .bipush (-2), 2), (11, .invokevirtual 69, 3), (14, .ireturn, 1), (15, .aload_n 0, 1), (16, .invokevirtual 73, 3), (19, .aload_n 0, 1), (20, .getfield 7, 3), (23, .sipush 130, 3), (26, .iload_n 1, 1), (27, .iadd, 1), (28, .iaload, 1), (29, .istore_n 3, 1), (30, .aload_n 0, 1), (31, .getfield 7, 3), (34, .sipush 130, 3), (37, .iload_n 1, 1), (38, .iadd, 1), (39, .iload_n 2, 1), (40, .iastore, 1), (41, .iload_n 3, 1), (42, .ireturn, 1)]
def inX12_next : List (Nat × Instr × Nat) := [(0, .aload_n 0, 1), (1, .aload_n 0, 1), (2, .getfield 99, 3), (5, .ldc2_w 103, 3), (8, .lmul, 1), (9, .ldc2_w 105, 3), (12, .ladd, 1), (13, .ldc2_w 107, 3), (16, .lrem, 1), (17, .putfield 99, 3), (20, .aload_n 0, 1), (21, .getfield 99, 3), (24, .ldc2_w 109, 3), (27, .ldiv, 1), (28, .ldc2_w 111, 3), (31, .lrem, 1), (32, .l2i, 1), (33, .ireturn, 1)]
def inX12_draws : List (Nat × Instr × Nat) := [(0, .iload_n 1, 1), (1, .i2l, 1), (2, .lconst 0, 1), (3, .ldc2_w 113, 3), (6, .invokestatic 42, 3), (9, .ifCond .eq 15, 3), (12, .iload_n 2, 1), (13, .i2l, 1), (14, .lconst 1, 1), (15, .ldc2_w 115, 3), (18, .invokestatic 42, 3), (21, .ifCond .ne 10, 3), (24, .aload_n 0, 1), (25, .bipush (-2), 2), (27, .invokevirtual 69, 3), (30, .ireturn, 1), (31, .aload_n 0, 1), (32, .invokevirtual 73, 3), (35, .aload_n 0, 1), (36, .iload_n 1, 1), (37, .i2l, 1), (38, .putfield 99, 3), (41, .iconst 0, 1), (42, .istore_n 3, 1), (43, .iconst 0, 1), (44, .istore 4, 2), (46, .iload 4, 2), (48, .iload_n 2, 1), (49, .if_icmp .ge 76, 3), (52, .aload_n 0, 1), (53, .invokevirtual 117, 3), (56, .istore 5, 2), (58, .aload_n 0, 1), (59, .invokevirtual 117, 3), (62, .istore 6, 2), (64, .aload_n 0, 1), (65, .invokevirtual 117, 3), (68, .istore 7, 2), (70, .aload_n 0, 1), (71, .invokevirtual 117, 3), (74, .istore 8, 2), (76, .aload_n 0, 1), (77, .invokevirtual 117, 3), (80, .iconst 4, 1), (81, .irem, 1), (82, .istore 9, 2), (84, .aload_n 0, 1), (85, .iload 5, 2), (87, .iload 6, 2), (89, .iload 7, 2), (91, .iload 8, 2), (93, .iload 9, 2), (95, .invokevirtual 66, 3), (98, .ifCond .ne 21, 3), (101, .aload_n 0, 1), (102, .iload 5, 2), (104, .iload 6, 2), (106, .iload 7, 2), (108, .iload 8, 2), (110, .iload 9, 2), (112, .invokevirtual 76, 3), (115, .pop, 1), (116, .iinc 3 1, 3), (119, .iinc 4 1, 3), (122, .goto (-76), 3), (125, .iload_n 3, 1), (126, .ireturn, 1)]
def inX12_of : List (Nat × Instr × Nat) := [(0, .aload_n 0, 1), (1, .iload_n 1, 1), (2, .invokevirtual 79, 3), (5, .ifCond .eq 15, 3), (8, .iload_n 2, 1), (9, .i2l, 1), (10, .lconst 0, 1), (11, .ldc2_w 93, 3), (14, .invokestatic 42, 3), (17, .ifCond .ne 10, 3), (20, .aload_n 0, 1), (21, .bipush (-2), 2), (23, .invokevirtual 69, 3), (26, .ireturn, 1), (27, .iload_n 2, 1), (28, .iconst 5, 1), (29, .if_icmp .ge 12, 3), (32, .aload_n 0, 1), (33, .iload_n 1, 1), (34, .iload_n 2, 1), (35, .invokevirtual 52, 3), (38, .goto 8, 3), (41, .aload_n 0, 1), (42, .iload_n 1, 1), (43, .invokevirtual 84, 3), (46, .ireturn, 1)]
def inX12_ones : List (Nat × Instr × Nat) := [(0, .iconst 0, 1), (1, .istore_n 1, 1), (2, .iconst 0, 1), (3, .istore_n 2, 1), (4, .iload_n 2, 1), (5, .bipush 16, 2), (7, .if_icmp .ge 17, 3), (10, .iload_n 1, 1), (11, .iload_n 0, 1), (12, .iload_n 2, 1), (13, .ishr, 1), (14, .iconst 1, 1), (15, .iand, 1), (16, .iadd, 1), (17, .istore_n 1, 1), (18, .iinc 2 1, 3), (21, .goto (-17), 3), (24, .iload_n 1, 1), (25, .ireturn, 1)]
def inX12_apartBy : List (Nat × Instr × Nat) := [(0, .iload_n 0, 1), (1, .tableswitch 80 0 2 #[27, 34, 54], 27), (28, .iload_n 1, 1), (29, .iload_n 2, 1), (30, .ixor, 1), (31, .invokestatic 121, 3), (34, .ireturn, 1), (35, .iload_n 1, 1), (36, .iconst 4, 1), (37, .irem, 1), (38, .iload_n 2, 1), (39, .iconst 4, 1), (40, .irem, 1), (41, .invokestatic 124, 3), (44, .iload_n 1, 1), (45, .iconst 4, 1), (46, .idiv, 1), (47, .iload_n 2, 1), (48, .iconst 4, 1), (49, .idiv, 1), (50, .invokestatic 124, 3), (53, .iadd, 1), (54, .ireturn, 1), (55, .iload_n 1, 1), (56, .iload_n 2, 1), (57, .invokestatic 124, 3), (60, .iconst 4, 1), (61, .if_icmp .le 14, 3), (64, .bipush 8, 2), (66, .iload_n 1, 1), (67, .iload_n 2, 1), (68, .invokestatic 124, 3), (71, .isub, 1), (72, .goto 8, 3), (75, .iload_n 1, 1), (76, .iload_n 2, 1), (77, .invokestatic 124, 3), (80, .ireturn, 1), (81, .iload_n 1, 1), (82, .iload_n 2, 1), (83, .if_icmp .ne 7, 3), (86, .iconst 0, 1), (87, .goto 30, 3), (90, .iload_n 1, 1), (91, .iconst 2, 1), (92, .idiv, 1), (93, .iload_n 2, 1), (94, .iconst 2, 1), (95, .idiv, 1), (96, .if_icmp .ne 7, 3), (99, .iconst 1, 1), (100, .goto 17, 3), (103, .iload_n 1, 1), (104, .iconst 4, 1), (105, .idiv, 1), (106, .iload_n 2, 1), (107, .iconst 4, 1), (108, .idiv, 1), (109, .if_icmp .ne 7, 3), (112, .iconst 2, 1), (113, .goto 4, 3), (116, .iconst 3, 1), (117, .ireturn, 1)]
def inX12_apartOf : List (Nat × Instr × Nat) := [(0, .aload_n 0, 1), (1, .getfield 7, 3), (4, .sipush 130, 3), (7, .iaload, 1), (8, .iconst 0, 1), (9, .aload_n 0, 1), (10, .iload_n 1, 1), (11, .iconst 0, 1), (12, .invokevirtual 52, 3), (15, .iload_n 2, 1), (16, .invokestatic 127, 3), (19, .imul, 1), (20, .aload_n 0, 1), (21, .getfield 7, 3), (24, .sipush 131, 3), (27, .iaload, 1), (28, .iconst 1, 1), (29, .aload_n 0, 1), (30, .iload_n 1, 1), (31, .iconst 1, 1), (32, .invokevirtual 52, 3), (35, .iload_n 3, 1), (36, .invokestatic 127, 3), (39, .imul, 1), (40, .iadd, 1), (41, .aload_n 0, 1), (42, .getfield 7, 3), (45, .sipush 132, 3), (48, .iaload, 1), (49, .iconst 2, 1), (50, .aload_n 0, 1), (51, .iload_n 1, 1), (52, .iconst 2, 1), (53, .invokevirtual 52, 3), (56, .iload 4, 2), (58, .invokestatic 127, 3), (61, .imul, 1), (62, .iadd, 1), (63, .aload_n 0, 1), (64, .getfield 7, 3), (67, .sipush 133, 3), (70, .iaload, 1), (71, .iconst 3, 1), (72, .aload_n 0, 1), (73, .iload_n 1, 1), (74, .iconst 3, 1), (75, .invokevirtual 52, 3), (78, .iload 5, 2), (80, .invokestatic 127, 3), (83, .imul, 1), (84, .iadd, 1), (85, .ireturn, 1)]
def inX12_between : List (Nat × Instr × Nat) := [(0, .aload_n 0, 1), (1, .iload_n 1, 1), (2, .aload_n 0, 1), (3, .iload_n 2, 1), (4, .iconst 0, 1), (5, .invokevirtual 52, 3), (8, .aload_n 0, 1), (9, .iload_n 2, 1), (10, .iconst 1, 1), (11, .invokevirtual 52, 3), (14, .aload_n 0, 1), (15, .iload_n 2, 1), (16, .iconst 2, 1), (17, .invokevirtual 52, 3), (20, .aload_n 0, 1), (21, .iload_n 2, 1), (22, .iconst 3, 1), (23, .invokevirtual 52, 3), (26, .invokevirtual 131, 3), (29, .ireturn, 1)]
def inX12_apart : List (Nat × Instr × Nat) := [(0, .aload_n 0, 1), (1, .iload_n 1, 1), (2, .invokevirtual 79, 3), (5, .ifCond .eq 23, 3), (8, .aload_n 0, 1), (9, .iload_n 2, 1), (10, .invokevirtual 79, 3), (13, .ifCond .eq 15, 3), (16, .iload_n 3, 1), (17, .i2l, 1), (18, .lconst 0, 1), (19, .ldc2_w 82, 3), (22, .invokestatic 42, 3), (25, .ifCond .ne 10, 3), (28, .aload_n 0, 1), (29, .bipush (-2), 2), (31, .invokevirtual 69, 3), (34, .ireturn, 1), (35, .iload_n 3, 1), (36, .iconst 4, 1), (37, .if_icmp .ne 12, 3), (40, .aload_n 0, 1), (41, .iload_n 1, 1), (42, .iload_n 2, 1), (43, .invokevirtual 134, 3), (46, .goto 19, 3), (49, .iload_n 3, 1), (50, .aload_n 0, 1), (51, .iload_n 1, 1), (52, .iload_n 3, 1), (53, .invokevirtual 52, 3), (56, .aload_n 0, 1), (57, .iload_n 2, 1), (58, .iload_n 3, 1), (59, .invokevirtual 52, 3), (62, .invokestatic 127, 3), (65, .ireturn, 1)]
def inX12_isAsked : List (Nat × Instr × Nat) := [(0, .iload_n 0, 1), (1, .i2l, 1), (2, .ldc2_w 137, 3), (5, .ldc2_w 46, 3), (8, .invokestatic 42, 3), (11, .ireturn, 1)]
def inX12_isSo : List (Nat × Instr × Nat) := [(0, .iload_n 3, 1), (1, .iconst (-1), 1), (2, .if_icmp .eq 13, 3), (5, .aload_n 0, 1), (6, .iload_n 1, 1), (7, .iload_n 2, 1), (8, .invokevirtual 52, 3), (11, .iload_n 3, 1), (12, .if_icmp .ne 7, 3), (15, .iconst 1, 1), (16, .goto 4, 3), (19, .iconst 0, 1), (20, .ireturn, 1)]
def inX12_look : List (Nat × Instr × Nat) := [(0, .iload_n 1, 1), (1, .invokestatic 139, 3), (4, .ifCond .eq 25, 3), (7, .iload_n 2, 1), (8, .invokestatic 139, 3), (11, .ifCond .eq 18, 3), (14, .iload_n 3, 1), (15, .invokestatic 139, 3), (18, .ifCond .eq 11, 3), (21, .iload 4, 2), (23, .invokestatic 139, 3), (26, .ifCond .ne 10, 3), (29, .aload_n 0, 1), (30, .bipush (-2), 2), (32, .invokevirtual 69, 3), (35, .ireturn, 1), (36, .iconst 0, 1), (37, .istore 5, 2), (39, .iconst 0, 1), (40, .istore 6, 2), (42, .iload 6, 2), (44, .aload_n 0, 1), (45, .getfield 7, 3), (48, .iconst 0, 1), (49, .iaload, 1), (50, .if_icmp .ge 67, 3), (53, .iload 5, 2), (55, .aload_n 0, 1), (56, .iload 6, 2), (58, .iconst 0, 1), (59, .iload_n 1, 1), (60, .invokevirtual 142, 3), (63, .ifCond .eq 44, 3), (66, .aload_n 0, 1), (67, .iload 6, 2), (69, .iconst 1, 1), (70, .iload_n 2, 1), (71, .invokevirtual 142, 3), (74, .ifCond .eq 33, 3), (77, .aload_n 0, 1), (78, .iload 6, 2), (80, .iconst 2, 1), (81, .iload_n 3, 1), (82, .invokevirtual 142, 3), (85, .ifCond .eq 22, 3), (88, .aload_n 0, 1), (89, .iload 6, 2), (91, .iconst 3, 1), (92, .iload 4, 2), (94, .invokevirtual 142, 3), (97, .ifCond .eq 10, 3), (100, .iconst 1, 1), (101, .iload 6, 2), (103, .ishl, 1), (104, .goto 4, 3), (107, .iconst 0, 1), (108, .ior, 1), (109, .istore 5, 2), (111, .iinc 6 1, 3), (114, .goto (-72), 3), (117, .iload 5, 2), (119, .ireturn, 1)]
def inX12_nearOf : List (Nat × Instr × Nat) := [(0, .iconst 0, 1), (1, .istore_n 3, 1), (2, .iconst 0, 1), (3, .istore 4, 2), (5, .iload 4, 2), (7, .aload_n 0, 1), (8, .getfield 7, 3), (11, .iconst 0, 1), (12, .iaload, 1), (13, .if_icmp .ge 31, 3), (16, .iload_n 3, 1), (17, .aload_n 0, 1), (18, .iload 4, 2), (20, .iload_n 1, 1), (21, .invokevirtual 134, 3), (24, .iload_n 2, 1), (25, .if_icmp .gt 10, 3), (28, .iconst 1, 1), (29, .iload 4, 2), (31, .ishl, 1), (32, .goto 4, 3), (35, .iconst 0, 1), (36, .ior, 1), (37, .istore_n 3, 1), (38, .iinc 4 1, 3), (41, .goto (-36), 3), (44, .iload_n 3, 1), (45, .ireturn, 1)]
def inX12_near : List (Nat × Instr × Nat) := [(0, .aload_n 0, 1), (1, .iload_n 1, 1), (2, .invokevirtual 79, 3), (5, .ifCond .eq 24, 3), (8, .iload_n 2, 1), (9, .i2l, 1), (10, .lconst 0, 1), (11, .ldc2_w 146, 3), (14, .invokestatic 42, 3), (17, .ifCond .eq 12, 3), (20, .aload_n 0, 1), (21, .iload_n 1, 1), (22, .iload_n 2, 1), (23, .invokevirtual 148, 3), (26, .goto 9, 3), (29, .aload_n 0, 1), (30, .bipush (-2), 2), (32, .invokevirtual 69, 3), (35, .ireturn, 1)]
def inX12_nearest : List (Nat × Instr × Nat) := [(0, .iload_n 1, 1), (1, .iload_n 2, 1), (2, .iload_n 3, 1), (3, .iload 4, 2), (5, .invokestatic 56, 3), (8, .ifCond .ne 10, 3), (11, .aload_n 0, 1), (12, .bipush (-2), 2), (14, .invokevirtual 69, 3), (17, .ireturn, 1), (18, .iconst (-1), 1), (19, .istore 5, 2), (21, .iconst 0, 1), (22, .istore 6, 2), (24, .iload 6, 2), (26, .aload_n 0, 1), (27, .getfield 7, 3), (30, .iconst 0, 1), (31, .iaload, 1), (32, .if_icmp .ge 49, 3), (35, .iload 5, 2), (37, .iconst (-1), 1), (38, .if_icmp .eq 28, 3), (41, .aload_n 0, 1), (42, .iload 6, 2), (44, .iload_n 1, 1), (45, .iload_n 2, 1), (46, .iload_n 3, 1), (47, .iload 4, 2), (49, .invokevirtual 131, 3), (52, .aload_n 0, 1), (53, .iload 5, 2), (55, .iload_n 1, 1), (56, .iload_n 2, 1), (57, .iload_n 3, 1), (58, .iload 4, 2), (60, .invokevirtual 131, 3), (63, .if_icmp .ge 8, 3), (66, .iload 6, 2), (68, .goto 5, 3), (71, .iload 5, 2), (73, .istore 5, 2), (75, .iinc 6 1, 3), (78, .goto (-54), 3), (81, .iload 5, 2), (83, .ireturn, 1)]
def inX12_sorts : List (Nat × Instr × Nat) := [(0, .iload_n 1, 1), (1, .i2l, 1), (2, .lconst 0, 1), (3, .ldc2_w 60, 3), (6, .invokestatic 42, 3), (9, .ifCond .ne 10, 3), (12, .aload_n 0, 1), (13, .bipush (-2), 2), (15, .invokevirtual 69, 3), (18, .ireturn, 1), (19, .iconst 0, 1), (20, .istore_n 2, 1), (21, .iconst 0, 1), (22, .istore_n 3, 1), (23, .iload_n 3, 1), (24, .aload_n 0, 1), (25, .getfield 7, 3), (28, .iconst 0, 1), (29, .iaload, 1), (30, .if_icmp .ge 27, 3), (33, .iload_n 2, 1), (34, .aload_n 0, 1), (35, .iload_n 3, 1), (36, .iconst 4, 1), (37, .invokevirtual 52, 3), (40, .iload_n 1, 1), (41, .if_icmp .ne 7, 3), (44, .iconst 1, 1), (45, .goto 4, 3), (48, .iconst 0, 1), (49, .iadd, 1), (50, .istore_n 2, 1), (51, .iinc 3 1, 3), (54, .goto (-31), 3), (57, .iload_n 2, 1), (58, .ireturn, 1)]
def inX12_group : List (Nat × Instr × Nat) := [(0, .iconst 1, 1), (1, .iload_n 1, 1), (2, .ishl, 1), (3, .istore_n 3, 1), (4, .iconst 0, 1), (5, .istore 4, 2), (7, .iload 4, 2), (9, .aload_n 0, 1), (10, .getfield 7, 3), (13, .iconst 0, 1), (14, .iaload, 1), (15, .if_icmp .ge 52, 3), (18, .iconst 0, 1), (19, .istore 5, 2), (21, .iload 5, 2), (23, .aload_n 0, 1), (24, .getfield 7, 3), (27, .iconst 0, 1), (28, .iaload, 1), (29, .if_icmp .ge 32, 3), (32, .iload_n 3, 1), (33, .iload_n 3, 1), (34, .iload 5, 2), (36, .invokestatic 151, 3), (39, .ifCond .eq 13, 3), (42, .aload_n 0, 1), (43, .iload 5, 2), (45, .iload_n 2, 1), (46, .invokevirtual 148, 3), (49, .goto 4, 3), (52, .iconst 0, 1), (53, .ior, 1), (54, .istore_n 3, 1), (55, .iinc 5 1, 3), (58, .goto (-37), 3), (61, .iinc 4 1, 3), (64, .goto (-57), 3), (67, .iload_n 3, 1), (68, .ireturn, 1)]
def inX12_groups : List (Nat × Instr × Nat) := [(0, .iload_n 1, 1), (1, .i2l, 1), (2, .lconst 0, 1), (3, .ldc2_w 146, 3), (6, .invokestatic 42, 3), (9, .ifCond .eq 13, 3), (12, .iload_n 2, 1), (13, .i2l, 1), (14, .lconst 0, 1), (15, .lconst 1, 1), (16, .invokestatic 42, 3), (19, .ifCond .ne 10, 3), (22, .aload_n 0, 1), (23, .bipush (-2), 2), (25, .invokevirtual 69, 3), (28, .ireturn, 1), (29, .iconst 0, 1), (30, .istore_n 3, 1), (31, .iconst 0, 1), (32, .istore 4, 2), (34, .iconst 0, 1), (35, .istore 5, 2), (37, .iconst 0, 1), (38, .istore 6, 2), (40, .iload 6, 2), (42, .aload_n 0, 1), (43, .getfield 7, 3), (46, .iconst 0, 1), (47, .iaload, 1), (48, .if_icmp .ge 60, 3), (51, .iload 5, 2), (53, .iload 6, 2), (55, .invokestatic 151, 3), (58, .ifCond .ne 44, 3), (61, .aload_n 0, 1), (62, .iload 6, 2), (64, .iload_n 1, 1), (65, .invokevirtual 154, 3), (68, .istore 7, 2), (70, .iload 5, 2), (72, .iload 7, 2), (74, .ior, 1), (75, .istore 5, 2), (77, .iinc 3 1, 3), (80, .iload 7, 2), (82, .invokestatic 121, 3), (85, .iload 4, 2), (87, .if_icmp .le 11, 3), (90, .iload 7, 2), (92, .invokestatic 121, 3), (95, .goto 5, 3), (98, .iload 4, 2), (100, .istore 4, 2), (102, .iinc 6 1, 3), (105, .goto (-65), 3), (108, .iload_n 2, 1), (109, .ifCond .ne 7, 3), (112, .iload_n 3, 1), (113, .goto 5, 3), (116, .iload 4, 2), (118, .ireturn, 1)]
def inX12_unlike : List (Nat × Instr × Nat) := [(0, .iconst 0, 1), (1, .istore_n 3, 1), (2, .iconst 0, 1), (3, .istore 4, 2), (5, .iload 4, 2), (7, .iconst 4, 1), (8, .if_icmp .ge 37, 3), (11, .iload_n 3, 1), (12, .aload_n 0, 1), (13, .iload_n 1, 1), (14, .iload 4, 2), (16, .invokevirtual 52, 3), (19, .aload_n 0, 1), (20, .iload_n 2, 1), (21, .iload 4, 2), (23, .invokevirtual 52, 3), (26, .if_icmp .eq 10, 3), (29, .iconst 1, 1), (30, .iload 4, 2), (32, .ishl, 1), (33, .goto 4, 3), (36, .iconst 0, 1), (37, .ior, 1), (38, .istore_n 3, 1), (39, .iinc 4 1, 3), (42, .goto (-37), 3), (45, .iload_n 3, 1), (46, .ireturn, 1)]
def inX12_twinsBy : List (Nat × Instr × Nat) := [(0, .iconst 0, 1), (1, .istore_n 2, 1), (2, .iconst 0, 1), (3, .istore_n 3, 1), (4, .iload_n 3, 1), (5, .aload_n 0, 1), (6, .getfield 7, 3), (9, .iconst 0, 1), (10, .iaload, 1), (11, .if_icmp .ge 64, 3), (14, .iconst 0, 1), (15, .istore 4, 2), (17, .iload 4, 2), (19, .iload_n 3, 1), (20, .if_icmp .ge 49, 3), (23, .aload_n 0, 1), (24, .iload_n 3, 1), (25, .iload 4, 2), (27, .invokevirtual 157, 3), (30, .istore 5, 2), (32, .iload_n 2, 1), (33, .iload 5, 2), (35, .invokestatic 121, 3), (38, .iconst 1, 1), (39, .if_icmp .ne 21, 3), (42, .iload_n 1, 1), (43, .iconst (-1), 1), (44, .if_icmp .eq 12, 3), (47, .iload 5, 2), (49, .iload_n 1, 1), (50, .invokestatic 151, 3), (53, .ifCond .eq 7, 3), (56, .iconst 1, 1), (57, .goto 4, 3), (60, .iconst 0, 1), (61, .iadd, 1), (62, .istore_n 2, 1), (63, .iinc 4 1, 3), (66, .goto (-49), 3), (69, .iinc 3 1, 3), (72, .goto (-68), 3), (75, .iload_n 2, 1), (76, .ireturn, 1)]
def inX12_twins : List (Nat × Instr × Nat) := [(0, .iload_n 1, 1), (1, .i2l, 1), (2, .ldc2_w 137, 3), (5, .ldc2_w 60, 3), (8, .invokestatic 42, 3), (11, .ifCond .eq 11, 3), (14, .aload_n 0, 1), (15, .iload_n 1, 1), (16, .invokevirtual 160, 3), (19, .goto 9, 3), (22, .aload_n 0, 1), (23, .bipush (-2), 2), (25, .invokevirtual 69, 3), (28, .ireturn, 1)]
def inX12_isEnough : List (Nat × Instr × Nat) := [(0, .iconst 1, 1), (1, .istore_n 2, 1), (2, .iconst 0, 1), (3, .istore_n 3, 1), (4, .iload_n 3, 1), (5, .aload_n 0, 1), (6, .getfield 7, 3), (9, .iconst 0, 1), (10, .iaload, 1), (11, .if_icmp .ge 46, 3), (14, .iconst 0, 1), (15, .istore 4, 2), (17, .iload 4, 2), (19, .iload_n 3, 1), (20, .if_icmp .ge 31, 3), (23, .iload_n 2, 1), (24, .ifCond .eq 19, 3), (27, .aload_n 0, 1), (28, .iload_n 3, 1), (29, .iload 4, 2), (31, .invokevirtual 157, 3), (34, .iload_n 1, 1), (35, .iand, 1), (36, .ifCond .eq 7, 3), (39, .iconst 1, 1), (40, .goto 4, 3), (43, .iconst 0, 1), (44, .istore_n 2, 1), (45, .iinc 4 1, 3), (48, .goto (-31), 3), (51, .iinc 3 1, 3), (54, .goto (-50), 3), (57, .iload_n 2, 1), (58, .ireturn, 1)]
def inX12_leastEnough : List (Nat × Instr × Nat) := [(0, .bipush 15, 2), (2, .istore_n 1, 1), (3, .bipush 15, 2), (5, .istore_n 2, 1), (6, .iload_n 2, 1), (7, .ifCond .lt 34, 3), (10, .aload_n 0, 1), (11, .iload_n 2, 1), (12, .invokevirtual 163, 3), (15, .ifCond .eq 18, 3), (18, .iload_n 2, 1), (19, .invokestatic 121, 3), (22, .iload_n 1, 1), (23, .invokestatic 121, 3), (26, .if_icmp .gt 7, 3), (29, .iload_n 2, 1), (30, .goto 4, 3), (33, .iload_n 1, 1), (34, .istore_n 1, 1), (35, .iinc 2 (-1), 3), (38, .goto (-32), 3), (41, .iload_n 1, 1), (42, .ireturn, 1)]
def inX12_enough : List (Nat × Instr × Nat) := [(0, .iload_n 1, 1), (1, .i2l, 1), (2, .ldc2_w 137, 3), (5, .ldc2_w 166, 3), (8, .invokestatic 42, 3), (11, .ifCond .ne 10, 3), (14, .aload_n 0, 1), (15, .bipush (-2), 2), (17, .invokevirtual 69, 3), (20, .ireturn, 1), (21, .iload_n 1, 1), (22, .iconst (-1), 1), (23, .if_icmp .ne 10, 3), (26, .aload_n 0, 1), (27, .invokevirtual 168, 3), (30, .goto 16, 3), (33, .aload_n 0, 1), (34, .iload_n 1, 1), (35, .invokevirtual 163, 3), (38, .ifCond .eq 7, 3), (41, .iconst 1, 1), (42, .goto 4, 3), (45, .iconst 0, 1), (46, .ireturn, 1)]
def inX12_span : List (Nat × Instr × Nat) := [(0, .iload_n 1, 1), (1, .i2l, 1), (2, .lconst 0, 1), (3, .ldc2_w 60, 3), (6, .invokestatic 42, 3), (9, .ifCond .ne 10, 3), (12, .aload_n 0, 1), (13, .bipush (-2), 2), (15, .invokevirtual 69, 3), (18, .ireturn, 1), (19, .iconst (-1), 1), (20, .istore_n 2, 1), (21, .iconst (-1), 1), (22, .istore_n 3, 1), (23, .iconst 0, 1), (24, .istore 4, 2), (26, .iload 4, 2), (28, .aload_n 0, 1), (29, .getfield 7, 3), (32, .iconst 0, 1), (33, .iaload, 1), (34, .if_icmp .ge 80, 3), (37, .iload 4, 2), (39, .iconst 1, 1), (40, .iadd, 1), (41, .istore 5, 2), (43, .iload 5, 2), (45, .aload_n 0, 1), (46, .getfield 7, 3), (49, .iconst 0, 1), (50, .iaload, 1), (51, .if_icmp .ge 57, 3), (54, .aload_n 0, 1), (55, .iload 4, 2), (57, .iload 5, 2), (59, .invokevirtual 134, 3), (62, .istore 6, 2), (64, .iload_n 2, 1), (65, .iconst (-1), 1), (66, .if_icmp .eq 24, 3), (69, .iload_n 1, 1), (70, .iconst 2, 1), (71, .irem, 1), (72, .ifCond .ne 12, 3), (75, .iload 6, 2), (77, .iload_n 2, 1), (78, .if_icmp .le 24, 3), (81, .goto 9, 3), (84, .iload 6, 2), (86, .iload_n 2, 1), (87, .if_icmp .ge 15, 3), (90, .iload 6, 2), (92, .istore_n 2, 1), (93, .bipush 16, 2), (95, .iload 4, 2), (97, .imul, 1), (98, .iload 5, 2), (100, .iadd, 1), (101, .istore_n 3, 1), (102, .iinc 5 1, 3), (105, .goto (-62), 3), (108, .iinc 4 1, 3), (111, .goto (-85), 3), (114, .iload_n 1, 1), (115, .iconst 2, 1), (116, .if_icmp .ge 7, 3), (119, .iload_n 2, 1), (120, .goto 4, 3), (123, .iload_n 3, 1), (124, .ireturn, 1)]
def inX12_isWord : List (Nat × Instr × Nat) := [(0, .iload_n 1, 1), (1, .i2l, 1), (2, .lconst 0, 1), (3, .aload_n 0, 1), (4, .getfield 7, 3), (7, .iconst 1, 1), (8, .iaload, 1), (9, .iconst 1, 1), (10, .isub, 1), (11, .i2l, 1), (12, .invokestatic 42, 3), (15, .ireturn, 1)]
def inX12_said : List (Nat × Instr × Nat) := [(0, .aload_n 0, 1), (1, .getfield 7, 3), (4, .bipush 82, 2), (6, .iconst 3, 1), (7, .iload_n 1, 1), (8, .imul, 1), (9, .iadd, 1), (10, .iload_n 2, 1), (11, .iadd, 1), (12, .iaload, 1), (13, .ireturn, 1)]
def inX12_sortOf : List (Nat × Instr × Nat) := [(0, .aload_n 0, 1), (1, .aload_n 0, 1), (2, .iload_n 1, 1), (3, .iconst 0, 1), (4, .invokevirtual 171, 3), (7, .iconst 4, 1), (8, .invokevirtual 52, 3), (11, .ireturn, 1)]
def inX12_isSpot : List (Nat × Instr × Nat) := [(0, .iload_n 0, 1), (1, .i2l, 1), (2, .lconst 0, 1), (3, .ldc2_w 93, 3), (6, .invokestatic 42, 3), (9, .ireturn, 1)]
def inX12_canSay : List (Nat × Instr × Nat) := [(0, .aload_n 0, 1), (1, .iload_n 1, 1), (2, .invokevirtual 79, 3), (5, .ifCond .eq 31, 3), (8, .iload_n 2, 1), (9, .i2l, 1), (10, .ldc2_w 137, 3), (13, .ldc2_w 93, 3), (16, .invokestatic 42, 3), (19, .ifCond .eq 17, 3), (22, .iload_n 3, 1), (23, .i2l, 1), (24, .ldc2_w 137, 3), (27, .ldc2_w 93, 3), (30, .invokestatic 42, 3), (33, .ifCond .ne 8, 3), (36, .bipush (-2), 2), (38, .goto 20, 3), (41, .aload_n 0, 1), (42, .getfield 7, 3), (45, .iconst 1, 1), (46, .iaload, 1), (47, .bipush 16, 2), (49, .if_icmp .ne 8, 3), (52, .bipush (-4), 2), (54, .goto 4, 3), (57, .iconst 0, 1), (58, .ireturn, 1)]
def inX12_says : List (Nat × Instr × Nat) := [(0, .bipush 82, 2), (2, .iconst 3, 1), (3, .aload_n 0, 1), (4, .getfield 7, 3), (7, .iconst 1, 1), (8, .iaload, 1), (9, .imul, 1), (10, .iadd, 1), (11, .istore 4, 2), (13, .aload_n 0, 1), (14, .getfield 7, 3), (17, .iload 4, 2), (19, .iload_n 1, 1), (20, .iastore, 1), (21, .aload_n 0, 1), (22, .getfield 7, 3), (25, .iload 4, 2), (27, .iconst 1, 1), (28, .iadd, 1), (29, .iload_n 2, 1), (30, .iastore, 1), (31, .aload_n 0, 1), (32, .getfield 7, 3), (35, .iload 4, 2), (37, .iconst 2, 1), (38, .iadd, 1), (39, .iload_n 3, 1), (40, .iastore, 1), (41, .aload_n 0, 1), (42, .getfield 7, 3), (45, .iconst 1, 1), (46, .dup2, 1), (47, .iaload, 1), (48, .iconst 1, 1), (49, .iadd, 1), (50, .iastore, 1), (51, .aload_n 0, 1), (52, .getfield 7, 3), (55, .iconst 1, 1), (56, .iaload, 1), (57, .iconst 1, 1), (58, .isub, 1), (59, .ireturn, 1)]
def inX12_word : List (Nat × Instr × Nat) := [(0, .aload_n 0, 1), (1, .iload_n 1, 1), (2, .iload_n 2, 1), (3, .iload_n 3, 1), (4, .invokevirtual 174, 3), (7, .istore 4, 2), (9, .iload 4, 2), (11, .ifCond .ge 10, 3), (14, .aload_n 0, 1), (15, .iload 4, 2), (17, .invokevirtual 69, 3), (20, .ireturn, 1), (21, .aload_n 0, 1), (22, .invokevirtual 73, 3), (25, .aload_n 0, 1), (26, .iload_n 1, 1), (27, .iload_n 2, 1), (28, .iload_n 3, 1), (29, .invokevirtual 177, 3), (32, .ireturn, 1)]
def inX12_cuts : List (Nat × Instr × Nat) := [(0, .aload_n 0, 1), (1, .iload_n 1, 1), (2, .invokevirtual 180, 3), (5, .ifCond .ne 10, 3), (8, .aload_n 0, 1), (9, .bipush (-2), 2), (11, .invokevirtual 69, 3), (14, .ireturn, 1), (15, .aload_n 0, 1), (16, .invokevirtual 73, 3), (19, .aload_n 0, 1), (20, .getfield 7, 3), (23, .iconst 1, 1), (24, .dup2, 1), (25, .iaload, 1), (26, .iconst 1, 1), (27, .isub, 1), (28, .iastore, 1), (29, .bipush 82, 2), (31, .iconst 3, 1), (32, .iload_n 1, 1), (33, .imul, 1), (34, .iadd, 1), (35, .istore_n 2, 1), (36, .iload_n 2, 1), (37, .bipush 82, 2), (39, .iconst 3, 1), (40, .aload_n 0, 1), (41, .getfield 7, 3), (44, .iconst 1, 1), (45, .iaload, 1), (46, .imul, 1), (47, .iadd, 1), (48, .if_icmp .ge 23, 3), (51, .aload_n 0, 1), (52, .getfield 7, 3), (55, .iload_n 2, 1), (56, .aload_n 0, 1), (57, .getfield 7, 3), (60, .iload_n 2, 1), (61, .iconst 3, 1), (62, .iadd, 1), (63, .iaload, 1), (64, .iastore, 1), (65, .iinc 2 1, 3), (68, .goto (-32), 3), (71, .aload_n 0, 1), (72, .getfield 7, 3), (75, .iconst 1, 1), (76, .iaload, 1), (77, .ireturn, 1)]
def inX12_swaps : List (Nat × Instr × Nat) := [(0, .iconst 0, 1), (1, .istore_n 3, 1), (2, .iload_n 3, 1), (3, .iconst 3, 1), (4, .if_icmp .ge 51, 3), (7, .aload_n 0, 1), (8, .iload_n 1, 1), (9, .iload_n 3, 1), (10, .invokevirtual 171, 3), (13, .istore 4, 2), (15, .aload_n 0, 1), (16, .getfield 7, 3), (19, .bipush 82, 2), (21, .iconst 3, 1), (22, .iload_n 1, 1), (23, .imul, 1), (24, .iadd, 1), (25, .iload_n 3, 1), (26, .iadd, 1), (27, .aload_n 0, 1), (28, .iload_n 2, 1), (29, .iload_n 3, 1), (30, .invokevirtual 171, 3), (33, .iastore, 1), (34, .aload_n 0, 1), (35, .getfield 7, 3), (38, .bipush 82, 2), (40, .iconst 3, 1), (41, .iload_n 2, 1), (42, .imul, 1), (43, .iadd, 1), (44, .iload_n 3, 1), (45, .iadd, 1), (46, .iload 4, 2), (48, .iastore, 1), (49, .iinc 3 1, 3), (52, .goto (-50), 3), (55, .return_, 1)]
def inX12_shifts : List (Nat × Instr × Nat) := [(0, .aload_n 0, 1), (1, .iload_n 1, 1), (2, .invokevirtual 180, 3), (5, .ifCond .eq 11, 3), (8, .aload_n 0, 1), (9, .iload_n 2, 1), (10, .invokevirtual 180, 3), (13, .ifCond .ne 10, 3), (16, .aload_n 0, 1), (17, .bipush (-2), 2), (19, .invokevirtual 69, 3), (22, .ireturn, 1), (23, .aload_n 0, 1), (24, .invokevirtual 73, 3), (27, .iload_n 1, 1), (28, .istore_n 3, 1), (29, .iload_n 3, 1), (30, .iload_n 2, 1), (31, .if_icmp .eq 32, 3), (34, .iload_n 3, 1), (35, .iload_n 2, 1), (36, .if_icmp .ge 9, 3), (39, .iload_n 3, 1), (40, .iconst 1, 1), (41, .iadd, 1), (42, .goto 6, 3), (45, .iload_n 3, 1), (46, .iconst 1, 1), (47, .isub, 1), (48, .istore 4, 2), (50, .aload_n 0, 1), (51, .iload_n 3, 1), (52, .iload 4, 2), (54, .invokevirtual 183, 3), (57, .iload 4, 2), (59, .istore_n 3, 1), (60, .goto (-31), 3), (63, .iload_n 1, 1), (64, .iload_n 2, 1), (65, .invokestatic 124, 3), (68, .ireturn, 1)]
def inX12_clearsAll : List (Nat × Instr × Nat) := [(0, .aload_n 0, 1), (1, .getfield 7, 3), (4, .iconst 1, 1), (5, .iaload, 1), (6, .istore_n 1, 1), (7, .aload_n 0, 1), (8, .getfield 7, 3), (11, .iconst 1, 1), (12, .iconst 0, 1), (13, .iastore, 1), (14, .iload_n 1, 1), (15, .ireturn, 1)]
def inX12_clears : List (Nat × Instr × Nat) := [(0, .aload_n 0, 1), (1, .invokevirtual 73, 3), (4, .aload_n 0, 1), (5, .invokevirtual 186, 3), (8, .ireturn, 1)]
def inX12_atSpot : List (Nat × Instr × Nat) := [(0, .iconst (-1), 1), (1, .istore_n 3, 1), (2, .iconst 0, 1), (3, .istore 4, 2), (5, .iload 4, 2), (7, .iload_n 2, 1), (8, .if_icmp .ge 53, 3), (11, .iload 4, 2), (13, .aload_n 0, 1), (14, .getfield 7, 3), (17, .iconst 1, 1), (18, .iaload, 1), (19, .if_icmp .ge 42, 3), (22, .aload_n 0, 1), (23, .iload 4, 2), (25, .invokevirtual 189, 3), (28, .iconst 1, 1), (29, .if_icmp .ne 24, 3), (32, .aload_n 0, 1), (33, .iload 4, 2), (35, .iconst 2, 1), (36, .invokevirtual 171, 3), (39, .iload_n 1, 1), (40, .if_icmp .ne 13, 3), (43, .aload_n 0, 1), (44, .iload 4, 2), (46, .iconst 0, 1), (47, .invokevirtual 171, 3), (50, .goto 4, 3), (53, .iload_n 3, 1), (54, .istore_n 3, 1), (55, .iinc 4 1, 3), (58, .goto (-53), 3), (61, .iload_n 3, 1), (62, .ireturn, 1)]
def inX12_meant : List (Nat × Instr × Nat) := [(0, .aload_n 0, 1), (1, .iload_n 1, 1), (2, .iload_n 2, 1), (3, .invokevirtual 171, 3), (6, .istore_n 3, 1), (7, .iload_n 3, 1), (8, .iconst (-1), 1), (9, .if_icmp .ne 7, 3), (12, .iconst (-1), 1), (13, .goto 9, 3), (16, .aload_n 0, 1), (17, .iload_n 3, 1), (18, .iload_n 1, 1), (19, .invokevirtual 192, 3), (22, .ireturn, 1)]
def inX12_isVain : List (Nat × Instr × Nat) := [(0, .aload_n 0, 1), (1, .iload_n 1, 1), (2, .invokevirtual 189, 3), (5, .lookupswitch 89 #[(2, 27), (3, 43)], 27), (32, .aload_n 0, 1), (33, .iload_n 1, 1), (34, .iconst 2, 1), (35, .invokevirtual 195, 3), (38, .iconst (-1), 1), (39, .if_icmp .ne 7, 3), (42, .iconst 1, 1), (43, .goto 4, 3), (46, .iconst 0, 1), (47, .ireturn, 1), (48, .aload_n 0, 1), (49, .iload_n 1, 1), (50, .iconst 1, 1), (51, .invokevirtual 171, 3), (54, .iconst (-1), 1), (55, .if_icmp .eq 13, 3), (58, .aload_n 0, 1), (59, .iload_n 1, 1), (60, .iconst 1, 1), (61, .invokevirtual 195, 3), (64, .iconst (-1), 1), (65, .if_icmp .eq 23, 3), (68, .aload_n 0, 1), (69, .iload_n 1, 1), (70, .iconst 2, 1), (71, .invokevirtual 171, 3), (74, .iconst (-1), 1), (75, .if_icmp .eq 17, 3), (78, .aload_n 0, 1), (79, .iload_n 1, 1), (80, .iconst 2, 1), (81, .invokevirtual 195, 3), (84, .iconst (-1), 1), (85, .if_icmp .ne 7, 3), (88, .iconst 1, 1), (89, .goto 4, 3), (92, .iconst 0, 1), (93, .ireturn, 1), (94, .iconst 0, 1), (95, .ireturn, 1)]
def inX12_clauseOf : List (Nat × Instr × Nat) := [(0, .iconst 0, 1), (1, .istore_n 2, 1), (2, .iconst 0, 1), (3, .istore_n 3, 1), (4, .iload_n 3, 1), (5, .iload_n 1, 1), (6, .if_icmp .ge 26, 3), (9, .iload_n 2, 1), (10, .aload_n 0, 1), (11, .iload_n 3, 1), (12, .invokevirtual 189, 3), (15, .iconst 3, 1), (16, .if_icmp .ne 7, 3), (19, .iconst 1, 1), (20, .goto 4, 3), (23, .iconst 0, 1), (24, .iadd, 1), (25, .istore_n 2, 1), (26, .iinc 3 1, 3), (29, .goto (-25), 3), (32, .iload_n 2, 1), (33, .ireturn, 1)]
def inX12_wordIs : List (Nat × Instr × Nat) := [(0, .aload_n 0, 1), (1, .iload_n 1, 1), (2, .invokevirtual 189, 3), (5, .istore_n 3, 1), (6, .iload_n 2, 1), (7, .tableswitch 95 3 6 #[29, 35, 49, 79], 29), (36, .aload_n 0, 1), (37, .iload_n 1, 1), (38, .invokevirtual 198, 3), (41, .ireturn, 1), (42, .aload_n 0, 1), (43, .iload_n 1, 1), (44, .invokevirtual 201, 3), (47, .ifCond .eq 7, 3), (50, .iconst 1, 1), (51, .goto 4, 3), (54, .iconst 0, 1), (55, .ireturn, 1), (56, .iload_n 3, 1), (57, .iconst 2, 1), (58, .if_icmp .ne 12, 3), (61, .aload_n 0, 1), (62, .iload_n 1, 1), (63, .iconst 2, 1), (64, .invokevirtual 195, 3), (67, .goto 18, 3), (70, .iload_n 3, 1), (71, .iconst 3, 1), (72, .if_icmp .ne 12, 3), (75, .aload_n 0, 1), (76, .iload_n 1, 1), (77, .iconst 1, 1), (78, .invokevirtual 195, 3), (81, .goto 4, 3), (84, .iconst (-1), 1), (85, .ireturn, 1), (86, .iload_n 3, 1), (87, .iconst 3, 1), (88, .if_icmp .ne 12, 3), (91, .aload_n 0, 1), (92, .iload_n 1, 1), (93, .iconst 2, 1), (94, .invokevirtual 195, 3), (97, .goto 4, 3), (100, .iconst (-1), 1), (101, .ireturn, 1), (102, .aload_n 0, 1), (103, .iload_n 1, 1), (104, .iload_n 2, 1), (105, .invokevirtual 171, 3), (108, .ireturn, 1)]
def inX12_wordOf : List (Nat × Instr × Nat) := [(0, .aload_n 0, 1), (1, .iload_n 1, 1), (2, .invokevirtual 180, 3), (5, .ifCond .eq 24, 3), (8, .iload_n 2, 1), (9, .i2l, 1), (10, .lconst 0, 1), (11, .ldc2_w 204, 3), (14, .invokestatic 42, 3), (17, .ifCond .eq 12, 3), (20, .aload_n 0, 1), (21, .iload_n 1, 1), (22, .iload_n 2, 1), (23, .invokevirtual 206, 3), (26, .goto 9, 3), (29, .aload_n 0, 1), (30, .bipush (-2), 2), (32, .invokevirtual 69, 3), (35, .ireturn, 1)]
def inX12_at : List (Nat × Instr × Nat) := [(0, .iload_n 1, 1), (1, .invokestatic 209, 3), (4, .ifCond .eq 24, 3), (7, .iload_n 2, 1), (8, .i2l, 1), (9, .lconst 0, 1), (10, .ldc2_w 115, 3), (13, .invokestatic 42, 3), (16, .ifCond .eq 12, 3), (19, .aload_n 0, 1), (20, .iload_n 1, 1), (21, .iload_n 2, 1), (22, .invokevirtual 192, 3), (25, .goto 9, 3), (28, .aload_n 0, 1), (29, .bipush (-2), 2), (31, .invokevirtual 69, 3), (34, .ireturn, 1)]
def inX12_rank : List (Nat × Instr × Nat) := [(0, .aload_n 0, 1), (1, .iload_n 1, 1), (2, .invokevirtual 189, 3), (5, .istore_n 2, 1), (6, .iload_n 2, 1), (7, .ifCond .ne 7, 3), (10, .iconst 0, 1), (11, .goto 13, 3), (14, .iload_n 2, 1), (15, .iconst 3, 1), (16, .if_icmp .ne 7, 3), (19, .iconst 2, 1), (20, .goto 4, 3), (23, .iconst 1, 1), (24, .ireturn, 1)]
def inX12_swapsOfAll : List (Nat × Instr × Nat) := [(0, .iconst 0, 1), (1, .istore_n 1, 1), (2, .iconst 0, 1), (3, .istore_n 2, 1), (4, .iload_n 2, 1), (5, .aload_n 0, 1), (6, .getfield 7, 3), (9, .iconst 1, 1), (10, .iaload, 1), (11, .if_icmp .ge 56, 3), (14, .iconst 0, 1), (15, .istore_n 3, 1), (16, .iload_n 3, 1), (17, .iload_n 2, 1), (18, .if_icmp .ge 43, 3), (21, .iload_n 1, 1), (22, .aload_n 0, 1), (23, .iload_n 3, 1), (24, .invokevirtual 198, 3), (27, .aload_n 0, 1), (28, .iload_n 2, 1), (29, .invokevirtual 198, 3), (32, .if_icmp .ne 20, 3), (35, .aload_n 0, 1), (36, .iload_n 3, 1), (37, .invokevirtual 212, 3), (40, .aload_n 0, 1), (41, .iload_n 2, 1), (42, .invokevirtual 212, 3), (45, .if_icmp .le 7, 3), (48, .iconst 1, 1), (49, .goto 4, 3), (52, .iconst 0, 1), (53, .iadd, 1), (54, .istore_n 1, 1), (55, .iinc 3 1, 3), (58, .goto (-42), 3), (61, .iinc 2 1, 3), (64, .goto (-60), 3), (67, .iload_n 1, 1), (68, .ireturn, 1)]
def inX12_ordered : List (Nat × Instr × Nat) := [(0, .iconst 0, 1), (1, .istore_n 2, 1), (2, .iconst 0, 1), (3, .istore_n 3, 1), (4, .iload_n 3, 1), (5, .aload_n 0, 1), (6, .getfield 7, 3), (9, .iconst 1, 1), (10, .iaload, 1), (11, .if_icmp .gt 107, 3), (14, .iconst 0, 1), (15, .istore 4, 2), (17, .iconst 0, 1), (18, .istore 5, 2), (20, .iload 5, 2), (22, .aload_n 0, 1), (23, .getfield 7, 3), (26, .iconst 1, 1), (27, .iaload, 1), (28, .if_icmp .ge 71, 3), (31, .aload_n 0, 1), (32, .iload 5, 2), (34, .invokevirtual 212, 3), (37, .iconst 2, 1), (38, .if_icmp .eq 23, 3), (41, .aload_n 0, 1), (42, .iload 5, 2), (44, .invokevirtual 212, 3), (47, .iload 5, 2), (49, .iload_n 3, 1), (50, .if_icmp .ge 7, 3), (53, .iconst 0, 1), (54, .goto 4, 3), (57, .iconst 1, 1), (58, .if_icmp .ne 7, 3), (61, .iconst 1, 1), (62, .goto 4, 3), (65, .iconst 0, 1), (66, .istore 6, 2), (68, .iload 4, 2), (70, .aload_n 0, 1), (71, .iload 5, 2), (73, .invokevirtual 198, 3), (76, .iload_n 1, 1), (77, .if_icmp .ne 12, 3), (80, .iload 6, 2), (82, .ifCond .eq 7, 3), (85, .iconst 1, 1), (86, .goto 4, 3), (89, .iconst 0, 1), (90, .iadd, 1), (91, .istore 4, 2), (93, .iinc 5 1, 3), (96, .goto (-76), 3), (99, .iload 4, 2), (101, .iload_n 2, 1), (102, .if_icmp .le 8, 3), (105, .iload 4, 2), (107, .goto 4, 3), (110, .iload_n 2, 1), (111, .istore_n 2, 1), (112, .iinc 3 1, 3), (115, .goto (-111), 3), (118, .iload_n 2, 1), (119, .ireturn, 1)]
def inX12_clauses : List (Nat × Instr × Nat) := [(0, .aload_n 0, 1), (1, .getfield 7, 3), (4, .iconst 1, 1), (5, .iaload, 1), (6, .istore_n 1, 1), (7, .iload_n 1, 1), (8, .ifCond .ne 7, 3), (11, .iconst 0, 1), (12, .goto 12, 3), (15, .aload_n 0, 1), (16, .iload_n 1, 1), (17, .iconst 1, 1), (18, .isub, 1), (19, .invokevirtual 198, 3), (22, .iconst 1, 1), (23, .iadd, 1), (24, .ireturn, 1)]
def inX12_moved : List (Nat × Instr × Nat) := [(0, .iconst 0, 1), (1, .istore_n 1, 1), (2, .iconst 0, 1), (3, .istore_n 2, 1), (4, .iload_n 2, 1), (5, .aload_n 0, 1), (6, .invokevirtual 215, 3), (9, .if_icmp .ge 17, 3), (12, .iload_n 1, 1), (13, .aload_n 0, 1), (14, .iload_n 2, 1), (15, .invokevirtual 218, 3), (18, .iadd, 1), (19, .istore_n 1, 1), (20, .iinc 2 1, 3), (23, .goto (-19), 3), (26, .aload_n 0, 1), (27, .getfield 7, 3), (30, .iconst 1, 1), (31, .iaload, 1), (32, .iload_n 1, 1), (33, .isub, 1), (34, .ireturn, 1)]
def inX12_vain : List (Nat × Instr × Nat) := [(0, .iconst 0, 1), (1, .istore_n 1, 1), (2, .iconst 0, 1), (3, .istore_n 2, 1), (4, .iload_n 2, 1), (5, .aload_n 0, 1), (6, .getfield 7, 3), (9, .iconst 1, 1), (10, .iaload, 1), (11, .if_icmp .ge 25, 3), (14, .iload_n 1, 1), (15, .aload_n 0, 1), (16, .iload_n 2, 1), (17, .invokevirtual 201, 3), (20, .ifCond .eq 7, 3), (23, .iconst 1, 1), (24, .goto 4, 3), (27, .iconst 0, 1), (28, .iadd, 1), (29, .istore_n 1, 1), (30, .iinc 2 1, 3), (33, .goto (-29), 3), (36, .iload_n 1, 1), (37, .ireturn, 1)]
def inX12_spots : List (Nat × Instr × Nat) := [(0, .iconst 0, 1), (1, .istore_n 1, 1), (2, .iconst 0, 1), (3, .istore_n 2, 1), (4, .iload_n 2, 1), (5, .aload_n 0, 1), (6, .getfield 7, 3), (9, .iconst 1, 1), (10, .iaload, 1), (11, .if_icmp .ge 47, 3), (14, .iconst 1, 1), (15, .istore_n 3, 1), (16, .iload_n 3, 1), (17, .iconst 3, 1), (18, .if_icmp .ge 34, 3), (21, .iload_n 1, 1), (22, .aload_n 0, 1), (23, .iload_n 2, 1), (24, .iload_n 3, 1), (25, .invokevirtual 171, 3), (28, .iconst (-1), 1), (29, .if_icmp .ne 7, 3), (32, .iconst 0, 1), (33, .goto 11, 3), (36, .iconst 1, 1), (37, .aload_n 0, 1), (38, .iload_n 2, 1), (39, .iload_n 3, 1), (40, .invokevirtual 171, 3), (43, .ishl, 1), (44, .ior, 1), (45, .istore_n 1, 1), (46, .iinc 3 1, 3), (49, .goto (-33), 3), (52, .iinc 2 1, 3), (55, .goto (-51), 3), (58, .iload_n 1, 1), (59, .ireturn, 1)]
def inX12_way : List (Nat × Instr × Nat) := [(0, .iconst 0, 1), (1, .istore_n 1, 1), (2, .iconst (-1), 1), (3, .istore_n 2, 1), (4, .iconst 0, 1), (5, .istore_n 3, 1), (6, .iload_n 3, 1), (7, .iconst 2, 1), (8, .aload_n 0, 1), (9, .getfield 7, 3), (12, .iconst 1, 1), (13, .iaload, 1), (14, .imul, 1), (15, .if_icmp .ge 60, 3), (18, .aload_n 0, 1), (19, .iload_n 3, 1), (20, .iconst 2, 1), (21, .idiv, 1), (22, .iconst 1, 1), (23, .iload_n 3, 1), (24, .iconst 2, 1), (25, .irem, 1), (26, .iadd, 1), (27, .invokevirtual 171, 3), (30, .istore 4, 2), (32, .iload 4, 2), (34, .iconst (-1), 1), (35, .if_icmp .eq 34, 3), (38, .iload_n 1, 1), (39, .iload_n 2, 1), (40, .iconst (-1), 1), (41, .if_icmp .ne 7, 3), (44, .iconst 0, 1), (45, .goto 19, 3), (48, .aload_n 0, 1), (49, .getfield 19, 3), (52, .iload_n 2, 1), (53, .iaload, 1), (54, .aload_n 0, 1), (55, .getfield 19, 3), (58, .iload 4, 2), (60, .iaload, 1), (61, .invokestatic 124, 3), (64, .iadd, 1), (65, .istore_n 1, 1), (66, .iload 4, 2), (68, .istore_n 2, 1), (69, .iinc 3 1, 3), (72, .goto (-66), 3), (75, .iload_n 1, 1), (76, .ireturn, 1)]
def inX12_wayNow : List (Nat × Instr × Nat) := [(0, .iconst 0, 1), (1, .istore_n 1, 1), (2, .iload_n 1, 1), (3, .bipush 6, 2), (5, .if_icmp .ge 25, 3), (8, .aload_n 0, 1), (9, .getfield 19, 3), (12, .iload_n 1, 1), (13, .aload_n 0, 1), (14, .getfield 7, 3), (17, .sipush 134, 3), (20, .iload_n 1, 1), (21, .iadd, 1), (22, .iaload, 1), (23, .iastore, 1), (24, .iinc 1 1, 3), (27, .goto (-25), 3), (30, .aload_n 0, 1), (31, .invokevirtual 221, 3), (34, .ireturn, 1)]
def inX12_all : List (Nat × Instr × Nat) := [(0, .iload_n 1, 1), (1, .tableswitch 80 0 6 #[43, 50, 55, 60, 65, 70, 75], 43), (44, .aload_n 0, 1), (45, .getfield 7, 3), (48, .iconst 1, 1), (49, .iaload, 1), (50, .ireturn, 1), (51, .aload_n 0, 1), (52, .invokevirtual 215, 3), (55, .ireturn, 1), (56, .aload_n 0, 1), (57, .invokevirtual 224, 3), (60, .ireturn, 1), (61, .aload_n 0, 1), (62, .invokevirtual 227, 3), (65, .ireturn, 1), (66, .aload_n 0, 1), (67, .invokevirtual 230, 3), (70, .ireturn, 1), (71, .aload_n 0, 1), (72, .invokevirtual 233, 3), (75, .ireturn, 1), (76, .aload_n 0, 1), (77, .invokevirtual 236, 3), (80, .ireturn, 1), (81, .aload_n 0, 1), (82, .bipush (-2), 2), (84, .invokevirtual 69, 3), (87, .ireturn, 1)]
def inX12_spotAt : List (Nat × Instr × Nat) := [(0, .iconst 0, 1), (1, .istore_n 2, 1), (2, .aload_n 0, 1), (3, .getfield 7, 3), (6, .sipush 134, 3), (9, .iload_n 2, 1), (10, .iadd, 1), (11, .iaload, 1), (12, .iload_n 1, 1), (13, .if_icmp .eq 9, 3), (16, .iinc 2 1, 3), (19, .goto (-17), 3), (22, .iload_n 2, 1), (23, .ireturn, 1)]
def inX12_lays : List (Nat × Instr × Nat) := [(0, .iload_n 1, 1), (1, .invokestatic 209, 3), (4, .ifCond .eq 10, 3), (7, .iload_n 2, 1), (8, .invokestatic 209, 3), (11, .ifCond .ne 10, 3), (14, .aload_n 0, 1), (15, .bipush (-2), 2), (17, .invokevirtual 69, 3), (20, .ireturn, 1), (21, .aload_n 0, 1), (22, .invokevirtual 73, 3), (25, .aload_n 0, 1), (26, .getfield 7, 3), (29, .sipush 134, 3), (32, .iload_n 1, 1), (33, .iadd, 1), (34, .iaload, 1), (35, .istore_n 3, 1), (36, .aload_n 0, 1), (37, .getfield 7, 3), (40, .sipush 134, 3), (43, .aload_n 0, 1), (44, .iload_n 2, 1), (45, .invokevirtual 239, 3), (48, .iadd, 1), (49, .iload_n 3, 1), (50, .iastore, 1), (51, .aload_n 0, 1), (52, .getfield 7, 3), (55, .sipush 134, 3), (58, .iload_n 1, 1), (59, .iadd, 1), (60, .iload_n 2, 1), (61, .iastore, 1), (62, .iload_n 3, 1), (63, .ireturn, 1)]
def inX12_lay : List (Nat × Instr × Nat) := [(0, .iload_n 1, 1), (1, .invokestatic 209, 3), (4, .ifCond .eq 16, 3), (7, .aload_n 0, 1), (8, .getfield 7, 3), (11, .sipush 134, 3), (14, .iload_n 1, 1), (15, .iadd, 1), (16, .iaload, 1), (17, .goto 9, 3), (20, .aload_n 0, 1), (21, .bipush (-2), 2), (23, .invokevirtual 69, 3), (26, .ireturn, 1)]
def inX12_tries : List (Nat × Instr × Nat) := [(0, .iload_n 1, 1), (1, .istore_n 2, 1), (2, .bipush 63, 2), (4, .istore_n 3, 1), (5, .iconst 0, 1), (6, .istore 4, 2), (8, .iload 4, 2), (10, .bipush 6, 2), (12, .if_icmp .ge 109, 3), (15, .iconst 1, 1), (16, .istore 5, 2), (18, .iconst 2, 1), (19, .istore 6, 2), (21, .iload 6, 2), (23, .bipush 6, 2), (25, .iload 4, 2), (27, .isub, 1), (28, .if_icmp .ge 16, 3), (31, .iload 5, 2), (33, .iload 6, 2), (35, .imul, 1), (36, .istore 5, 2), (38, .iinc 6 1, 3), (41, .goto (-20), 3), (44, .iload_n 2, 1), (45, .iload 5, 2), (47, .idiv, 1), (48, .istore 6, 2), (50, .iload_n 2, 1), (51, .iload 5, 2), (53, .irem, 1), (54, .istore_n 2, 1), (55, .iconst 0, 1), (56, .istore 7, 2), (58, .iload_n 3, 1), (59, .iload 7, 2), (61, .invokestatic 151, 3), (64, .ifCond .eq 8, 3), (67, .iload 6, 2), (69, .ifCond .le 28, 3), (72, .iload 6, 2), (74, .iload_n 3, 1), (75, .iload 7, 2), (77, .invokestatic 151, 3), (80, .ifCond .eq 7, 3), (83, .iconst 1, 1), (84, .goto 4, 3), (87, .iconst 0, 1), (88, .isub, 1), (89, .istore 6, 2), (91, .iinc 7 1, 3), (94, .goto (-36), 3), (97, .aload_n 0, 1), (98, .getfield 19, 3), (101, .iload 4, 2), (103, .iload 7, 2), (105, .iastore, 1), (106, .iload_n 3, 1), (107, .iconst 1, 1), (108, .iload 7, 2), (110, .ishl, 1), (111, .iconst (-1), 1), (112, .ixor, 1), (113, .iand, 1), (114, .istore_n 3, 1), (115, .iinc 4 1, 3), (118, .goto (-110), 3), (121, .return_, 1)]
def inX12_bestWay : List (Nat × Instr × Nat) := [(0, .iconst (-1), 1), (1, .istore_n 1, 1), (2, .iconst 0, 1), (3, .istore_n 2, 1), (4, .iload_n 2, 1), (5, .sipush 720, 3), (8, .if_icmp .ge 61, 3), (11, .aload_n 0, 1), (12, .iload_n 2, 1), (13, .invokevirtual 242, 3), (16, .aload_n 0, 1), (17, .invokevirtual 221, 3), (20, .istore_n 3, 1), (21, .iload_n 1, 1), (22, .iconst (-1), 1), (23, .if_icmp .eq 8, 3), (26, .iload_n 3, 1), (27, .iload_n 1, 1), (28, .if_icmp .ge 35, 3), (31, .iload_n 3, 1), (32, .istore_n 1, 1), (33, .iconst 0, 1), (34, .istore 4, 2), (36, .iload 4, 2), (38, .bipush 6, 2), (40, .if_icmp .ge 23, 3), (43, .aload_n 0, 1), (44, .getfield 22, 3), (47, .iload 4, 2), (49, .aload_n 0, 1), (50, .getfield 19, 3), (53, .iload 4, 2), (55, .iaload, 1), (56, .iastore, 1), (57, .iinc 4 1, 3), (60, .goto (-24), 3), (63, .iinc 2 1, 3), (66, .goto (-62), 3), (69, .iload_n 1, 1), (70, .ireturn, 1)]
def inX12_best : List (Nat × Instr × Nat) := [(0, .iload_n 1, 1), (1, .i2l, 1), (2, .ldc2_w 137, 3), (5, .ldc2_w 93, 3), (8, .invokestatic 42, 3), (11, .ifCond .ne 10, 3), (14, .aload_n 0, 1), (15, .bipush (-2), 2), (17, .invokevirtual 69, 3), (20, .ireturn, 1), (21, .aload_n 0, 1), (22, .invokevirtual 246, 3), (25, .istore_n 2, 1), (26, .iload_n 1, 1), (27, .iconst (-1), 1), (28, .if_icmp .ne 7, 3), (31, .iload_n 2, 1), (32, .goto 9, 3), (35, .aload_n 0, 1), (36, .getfield 22, 3), (39, .iload_n 1, 1), (40, .iaload, 1), (41, .ireturn, 1)]
def inX12_settles : List (Nat × Instr × Nat) := [(0, .aload_n 0, 1), (1, .invokevirtual 73, 3), (4, .aload_n 0, 1), (5, .invokevirtual 233, 3), (8, .aload_n 0, 1), (9, .invokevirtual 246, 3), (12, .isub, 1), (13, .istore_n 1, 1), (14, .iconst 0, 1), (15, .istore_n 2, 1), (16, .iload_n 2, 1), (17, .bipush 6, 2), (19, .if_icmp .ge 25, 3), (22, .aload_n 0, 1), (23, .getfield 7, 3), (26, .sipush 134, 3), (29, .iload_n 2, 1), (30, .iadd, 1), (31, .aload_n 0, 1), (32, .getfield 22, 3), (35, .iload_n 2, 1), (36, .iaload, 1), (37, .iastore, 1), (38, .iinc 2 1, 3), (41, .goto (-25), 3), (44, .iload_n 1, 1), (45, .ireturn, 1)]
def inX12_type : List (Nat × Instr × Nat) := [(0, .iload_n 1, 1), (1, .i2l, 1), (2, .lconst 0, 1), (3, .ldc2_w 249, 3), (6, .invokestatic 42, 3), (9, .ifCond .ne 10, 3), (12, .aload_n 0, 1), (13, .bipush (-2), 2), (15, .invokevirtual 69, 3), (18, .ireturn, 1), (19, .aload_n 0, 1), (20, .getfield 251, 3), (23, .bipush 120, 2), (25, .if_icmp .ne 10, 3), (28, .aload_n 0, 1), (29, .bipush (-4), 2), (31, .invokevirtual 69, 3), (34, .ireturn, 1), (35, .aload_n 0, 1), (36, .getfield 16, 3), (39, .aload_n 0, 1), (40, .getfield 251, 3), (43, .iload_n 1, 1), (44, .iastore, 1), (45, .aload_n 0, 1), (46, .dup, 1), (47, .getfield 251, 3), (50, .iconst 1, 1), (51, .iadd, 1), (52, .putfield 251, 3), (55, .aload_n 0, 1), (56, .getfield 251, 3), (59, .ireturn, 1)]
def inX12_clear : List (Nat × Instr × Nat) := [(0, .aload_n 0, 1), (1, .getfield 251, 3), (4, .istore_n 1, 1), (5, .aload_n 0, 1), (6, .iconst 0, 1), (7, .putfield 251, 3), (10, .iload_n 1, 1), (11, .ireturn, 1)]
def inX12_byteHere : List (Nat × Instr × Nat) := [(0, .aload_n 0, 1), (1, .getfield 254, 3), (4, .aload_n 0, 1), (5, .getfield 251, 3), (8, .if_icmp .ge 15, 3), (11, .aload_n 0, 1), (12, .getfield 16, 3), (15, .aload_n 0, 1), (16, .getfield 254, 3), (19, .iaload, 1), (20, .goto 4, 3), (23, .iconst (-1), 1), (24, .ireturn, 1)]
def inX12_blanks : List (Nat × Instr × Nat) := [(0, .aload_n 0, 1), (1, .invokevirtual 257, 3), (4, .bipush 32, 2), (6, .if_icmp .ne 16, 3), (9, .aload_n 0, 1), (10, .dup, 1), (11, .getfield 254, 3), (14, .iconst 1, 1), (15, .iadd, 1), (16, .putfield 254, 3), (19, .goto (-19), 3), (22, .return_, 1)]
def inX12_least : List (Nat × Instr × Nat) := [(0, .iload_n 0, 1), (1, .lookupswitch 72 #[(99, 70), (100, 68), (103, 63), (108, 65), (115, 59), (119, 61)], 59), (60, .iconst 5, 1), (61, .ireturn, 1), (62, .iconst 1, 1), (63, .ireturn, 1), (64, .iconst 2, 1), (65, .ireturn, 1), (66, .bipush 6, 2), (68, .ireturn, 1), (69, .iconst 1, 1), (70, .ireturn, 1), (71, .iconst 0, 1), (72, .ireturn, 1), (73, .iconst (-1), 1), (74, .ireturn, 1)]
def inX12_isFigure : List (Nat × Instr × Nat) := [(0, .aload_n 0, 1), (1, .invokevirtual 257, 3), (4, .i2l, 1), (5, .ldc2_w 260, 3), (8, .ldc2_w 262, 3), (11, .invokestatic 42, 3), (14, .ireturn, 1)]
def inX12_readsOrder : List (Nat × Instr × Nat) := [(0, .aload_n 0, 1), (1, .invokevirtual 257, 3), (4, .istore_n 1, 1), (5, .iload_n 1, 1), (6, .invokestatic 264, 3), (9, .iconst (-1), 1), (10, .if_icmp .ne 5, 3), (13, .iconst 0, 1), (14, .ireturn, 1), (15, .aload_n 0, 1), (16, .dup, 1), (17, .getfield 254, 3), (20, .iconst 1, 1), (21, .iadd, 1), (22, .putfield 254, 3), (25, .iconst 0, 1), (26, .istore_n 2, 1), (27, .aload_n 0, 1), (28, .invokevirtual 267, 3), (31, .aload_n 0, 1), (32, .invokevirtual 270, 3), (35, .ifCond .eq 103, 3), (38, .iload_n 2, 1), (39, .iload_n 1, 1), (40, .bipush 119, 2), (42, .if_icmp .ne 7, 3), (45, .iconst 3, 1), (46, .goto 7, 3), (49, .iload_n 1, 1), (50, .invokestatic 264, 3), (53, .if_icmp .ge 85, 3), (56, .aload_n 0, 1), (57, .invokevirtual 257, 3), (60, .bipush 48, 2), (62, .isub, 1), (63, .istore_n 3, 1), (64, .aload_n 0, 1), (65, .dup, 1), (66, .getfield 254, 3), (69, .iconst 1, 1), (70, .iadd, 1), (71, .putfield 254, 3), (74, .aload_n 0, 1), (75, .invokevirtual 270, 3), (78, .ifCond .eq 35, 3), (81, .bipush 10, 2), (83, .iload_n 3, 1), (84, .imul, 1), (85, .aload_n 0, 1), (86, .invokevirtual 257, 3), (89, .iadd, 1), (90, .bipush 48, 2), (92, .isub, 1), (93, .istore_n 3, 1), (94, .aload_n 0, 1), (95, .dup, 1), (96, .getfield 254, 3), (99, .iconst 1, 1), (100, .iadd, 1), (101, .putfield 254, 3), (104, .aload_n 0, 1), (105, .invokevirtual 270, 3), (108, .ifCond .eq 5, 3), (111, .iconst 0, 1), (112, .ireturn, 1), (113, .aload_n 0, 1), (114, .getfield 31, 3), (117, .bipush 6, 2), (119, .aload_n 0, 1), (120, .getfield 274, 3), (123, .imul, 1), (124, .iload_n 2, 1), (125, .iadd, 1), (126, .iload_n 3, 1), (127, .iastore, 1), (128, .iinc 2 1, 3), (131, .aload_n 0, 1), (132, .invokevirtual 267, 3), (135, .goto (-104), 3), (138, .aload_n 0, 1), (139, .invokevirtual 257, 3), (142, .bipush 59, 2), (144, .if_icmp .ne 11, 3), (147, .iload_n 2, 1), (148, .iload_n 1, 1), (149, .invokestatic 264, 3), (152, .if_icmp .ge 5, 3), (155, .iconst 0, 1), (156, .ireturn, 1), (157, .aload_n 0, 1), (158, .dup, 1), (159, .getfield 254, 3), (162, .iconst 1, 1), (163, .iadd, 1), (164, .putfield 254, 3), (167, .aload_n 0, 1), (168, .getfield 25, 3), (171, .aload_n 0, 1), (172, .getfield 274, 3), (175, .iload_n 1, 1), (176, .iastore, 1), (177, .aload_n 0, 1), (178, .getfield 28, 3), (181, .aload_n 0, 1), (182, .getfield 274, 3), (185, .iload_n 2, 1), (186, .iastore, 1), (187, .aload_n 0, 1), (188, .dup, 1), (189, .getfield 274, 3), (192, .iconst 1, 1), (193, .iadd, 1), (194, .putfield 274, 3), (197, .iconst 1, 1), (198, .ireturn, 1)]
def inX12_readsAll : List (Nat × Instr × Nat) := [(0, .aload_n 0, 1), (1, .iconst 0, 1), (2, .putfield 254, 3), (5, .aload_n 0, 1), (6, .iconst 0, 1), (7, .putfield 274, 3), (10, .iconst 1, 1), (11, .istore_n 1, 1), (12, .aload_n 0, 1), (13, .invokevirtual 267, 3), (16, .iload_n 1, 1), (17, .ifCond .eq 37, 3), (20, .aload_n 0, 1), (21, .getfield 254, 3), (24, .aload_n 0, 1), (25, .getfield 251, 3), (28, .if_icmp .lt 10, 3), (31, .aload_n 0, 1), (32, .getfield 274, 3), (35, .ifCond .ne 19, 3), (38, .aload_n 0, 1), (39, .invokevirtual 277, 3), (42, .istore_n 1, 1), (43, .iload_n 1, 1), (44, .ifCond .eq (-28), 3), (47, .aload_n 0, 1), (48, .invokevirtual 267, 3), (51, .goto (-35), 3), (54, .iload_n 1, 1), (55, .ireturn, 1)]
def inX12_laysAll : List (Nat × Instr × Nat) := [(0, .iconst 0, 1), (1, .istore_n 2, 1), (2, .iconst 0, 1), (3, .istore_n 3, 1), (4, .iload_n 3, 1), (5, .bipush 6, 2), (7, .if_icmp .ge 45, 3), (10, .iload_n 2, 1), (11, .aload_n 0, 1), (12, .getfield 31, 3), (15, .iload_n 1, 1), (16, .iload_n 3, 1), (17, .iadd, 1), (18, .iaload, 1), (19, .i2l, 1), (20, .lconst 0, 1), (21, .ldc2_w 93, 3), (24, .invokestatic 42, 3), (27, .ifCond .eq 16, 3), (30, .iconst 1, 1), (31, .aload_n 0, 1), (32, .getfield 31, 3), (35, .iload_n 1, 1), (36, .iload_n 3, 1), (37, .iadd, 1), (38, .iaload, 1), (39, .ishl, 1), (40, .goto 4, 3), (43, .iconst 0, 1), (44, .ior, 1), (45, .istore_n 2, 1), (46, .iinc 3 1, 3), (49, .goto (-45), 3), (52, .iconst 0, 1), (53, .istore_n 3, 1), (54, .iload_n 3, 1), (55, .bipush 6, 2), (57, .if_icmp .ge 33, 3), (60, .iload_n 2, 1), (61, .bipush 63, 2), (63, .if_icmp .ne 27, 3), (66, .aload_n 0, 1), (67, .getfield 7, 3), (70, .sipush 134, 3), (73, .iload_n 3, 1), (74, .iadd, 1), (75, .aload_n 0, 1), (76, .getfield 31, 3), (79, .iload_n 1, 1), (80, .iload_n 3, 1), (81, .iadd, 1), (82, .iaload, 1), (83, .iastore, 1), (84, .iinc 3 1, 3), (87, .goto (-33), 3), (90, .iload_n 2, 1), (91, .bipush 63, 2), (93, .if_icmp .ne 7, 3), (96, .iconst 1, 1), (97, .goto 4, 3), (100, .iconst 0, 1), (101, .ireturn, 1)]
def inX12_does : List (Nat × Instr × Nat) := [(0, .bipush 6, 2), (2, .iload_n 1, 1), (3, .imul, 1), (4, .istore_n 2, 1), (5, .aload_n 0, 1), (6, .getfield 31, 3), (9, .iload_n 2, 1), (10, .iaload, 1), (11, .istore_n 3, 1), (12, .aload_n 0, 1), (13, .getfield 31, 3), (16, .iload_n 2, 1), (17, .iconst 1, 1), (18, .iadd, 1), (19, .iaload, 1), (20, .istore 4, 2), (22, .aload_n 0, 1), (23, .getfield 31, 3), (26, .iload_n 2, 1), (27, .iconst 2, 1), (28, .iadd, 1), (29, .iaload, 1), (30, .istore 5, 2), (32, .aload_n 0, 1), (33, .getfield 25, 3), (36, .iload_n 1, 1), (37, .iaload, 1), (38, .lookupswitch 270 #[(100, 241), (103, 207), (108, 235), (115, 50), (119, 119)], 50), (88, .aload_n 0, 1), (89, .iload_n 3, 1), (90, .iload 4, 2), (92, .iload 5, 2), (94, .aload_n 0, 1), (95, .getfield 31, 3), (98, .iload_n 2, 1), (99, .iconst 3, 1), (100, .iadd, 1), (101, .iaload, 1), (102, .aload_n 0, 1), (103, .getfield 31, 3), (106, .iload_n 2, 1), (107, .iconst 4, 1), (108, .iadd, 1), (109, .iaload, 1), (110, .invokevirtual 66, 3), (113, .ifCond .ne 7, 3), (116, .iconst 1, 1), (117, .goto 4, 3), (120, .iconst 0, 1), (121, .istore 6, 2), (123, .iload 6, 2), (125, .ifCond .eq 29, 3), (128, .aload_n 0, 1), (129, .iload_n 3, 1), (130, .iload 4, 2), (132, .iload 5, 2), (134, .aload_n 0, 1), (135, .getfield 31, 3), (138, .iload_n 2, 1), (139, .iconst 3, 1), (140, .iadd, 1), (141, .iaload, 1), (142, .aload_n 0, 1), (143, .getfield 31, 3), (146, .iload_n 2, 1), (147, .iconst 4, 1), (148, .iadd, 1), (149, .iaload, 1), (150, .invokevirtual 76, 3), (153, .pop, 1), (154, .iload 6, 2), (156, .ireturn, 1), (157, .aload_n 0, 1), (158, .getfield 28, 3), (161, .iload_n 1, 1), (162, .iaload, 1), (163, .iconst 3, 1), (164, .if_icmp .ne 8, 3), (167, .iload 4, 2), (169, .goto 4, 3), (172, .iconst (-1), 1), (173, .istore 7, 2), (175, .aload_n 0, 1), (176, .getfield 28, 3), (179, .iload_n 1, 1), (180, .iaload, 1), (181, .iconst 3, 1), (182, .if_icmp .ne 8, 3), (185, .iload 5, 2), (187, .goto 19, 3), (190, .aload_n 0, 1), (191, .getfield 28, 3), (194, .iload_n 1, 1), (195, .iaload, 1), (196, .iconst 2, 1), (197, .if_icmp .ne 8, 3), (200, .iload 4, 2), (202, .goto 4, 3), (205, .iconst (-1), 1), (206, .istore 8, 2), (208, .aload_n 0, 1), (209, .iload_n 3, 1), (210, .iload 7, 2), (212, .iload 8, 2), (214, .invokevirtual 174, 3), (217, .ifCond .ne 7, 3), (220, .iconst 1, 1), (221, .goto 4, 3), (224, .iconst 0, 1), (225, .istore 6, 2), (227, .iload 6, 2), (229, .ifCond .eq 13, 3), (232, .aload_n 0, 1), (233, .iload_n 3, 1), (234, .iload 7, 2), (236, .iload 8, 2), (238, .invokevirtual 177, 3), (241, .pop, 1), (242, .iload 6, 2), (244, .ireturn, 1), (245, .iload_n 3, 1), (246, .iload 4, 2), (248, .invokestatic 95, 3), (251, .istore 6, 2), (253, .iload 6, 2), (255, .ifCond .eq 15, 3), (258, .aload_n 0, 1), (259, .getfield 7, 3), (262, .sipush 130, 3), (265, .iload_n 3, 1), (266, .iadd, 1), (267, .iload 4, 2), (269, .iastore, 1), (270, .iload 6, 2), (272, .ireturn, 1), (273, .aload_n 0, 1), (274, .iload_n 2, 1), (275, .invokevirtual 280, 3), (278, .ireturn, 1), (279, .aload_n 0, 1), (280, .iload_n 3, 1), (281, .invokevirtual 87, 3), (284, .ifCond .ne 7, 3), (287, .iconst 1, 1), (288, .goto 4, 3), (291, .iconst 0, 1), (292, .istore 6, 2), (294, .iload 6, 2), (296, .ifCond .eq 9, 3), (299, .aload_n 0, 1), (300, .iload_n 3, 1), (301, .invokevirtual 90, 3), (304, .pop, 1), (305, .iload 6, 2), (307, .ireturn, 1), (308, .aload_n 0, 1), (309, .invokevirtual 186, 3), (312, .pop, 1), (313, .iconst 1, 1), (314, .ireturn, 1)]
def inX12_reads : List (Nat × Instr × Nat) := [(0, .aload_n 0, 1), (1, .invokevirtual 283, 3), (4, .ifCond .ne 11, 3), (7, .bipush (-10), 2), (9, .aload_n 0, 1), (10, .getfield 254, 3), (13, .isub, 1), (14, .ireturn, 1), (15, .aload_n 0, 1), (16, .iconst 0, 1), (17, .sipush 840, 3), (20, .invokevirtual 38, 3), (23, .iconst 0, 1), (24, .istore_n 1, 1), (25, .iload_n 1, 1), (26, .aload_n 0, 1), (27, .getfield 274, 3), (30, .if_icmp .ge 31, 3), (33, .aload_n 0, 1), (34, .iload_n 1, 1), (35, .invokevirtual 286, 3), (38, .ifCond .ne 17, 3), (41, .aload_n 0, 1), (42, .sipush 840, 3), (45, .iconst 0, 1), (46, .invokevirtual 38, 3), (49, .sipush (-1000), 3), (52, .iload_n 1, 1), (53, .isub, 1), (54, .ireturn, 1), (55, .iinc 1 1, 3), (58, .goto (-33), 3), (61, .aload_n 0, 1), (62, .iconst 0, 1), (63, .sipush 980, 3), (66, .invokevirtual 38, 3), (69, .aload_n 0, 1), (70, .sipush 840, 3), (73, .iconst 0, 1), (74, .invokevirtual 38, 3), (77, .aload_n 0, 1), (78, .invokevirtual 73, 3), (81, .aload_n 0, 1), (82, .sipush 980, 3), (85, .iconst 0, 1), (86, .invokevirtual 38, 3), (89, .aload_n 0, 1), (90, .getfield 274, 3), (93, .ireturn, 1)]
def inX12_back : List (Nat × Instr × Nat) := [(0, .aload_n 0, 1), (1, .getfield 34, 3), (4, .ifCond .ne 10, 3), (7, .aload_n 0, 1), (8, .bipush (-3), 2), (10, .invokevirtual 69, 3), (13, .ireturn, 1), (14, .aload_n 0, 1), (15, .dup, 1), (16, .getfield 34, 3), (19, .iconst 1, 1), (20, .isub, 1), (21, .putfield 34, 3), (24, .aload_n 0, 1), (25, .sipush 140, 3), (28, .sipush 140, 3), (31, .aload_n 0, 1), (32, .getfield 34, 3), (35, .imul, 1), (36, .iadd, 1), (37, .iconst 0, 1), (38, .invokevirtual 38, 3), (41, .aload_n 0, 1), (42, .getfield 34, 3), (45, .ireturn, 1)]
def inX12_tells : List (Nat × Instr × Nat) := [(0, .iload_n 1, 1), (1, .tableswitch 74 0 6 #[43, 43, 43, 50, 55, 62, 69], 43), (44, .aload_n 0, 1), (45, .getfield 13, 3), (48, .iload_n 1, 1), (49, .iaload, 1), (50, .ireturn, 1), (51, .aload_n 0, 1), (52, .getfield 251, 3), (55, .ireturn, 1), (56, .aload_n 0, 1), (57, .getfield 7, 3), (60, .iconst 0, 1), (61, .iaload, 1), (62, .ireturn, 1), (63, .aload_n 0, 1), (64, .getfield 7, 3), (67, .iconst 1, 1), (68, .iaload, 1), (69, .ireturn, 1), (70, .aload_n 0, 1), (71, .getfield 34, 3), (74, .ireturn, 1), (75, .aload_n 0, 1), (76, .getfield 7, 3), (79, .sipush 130, 3), (82, .iload_n 1, 1), (83, .iadd, 1), (84, .bipush 7, 2), (86, .isub, 1), (87, .iaload, 1), (88, .ireturn, 1)]
def inX12_told : List (Nat × Instr × Nat) := [(0, .iload_n 1, 1), (1, .i2l, 1), (2, .lconst 0, 1), (3, .ldc2_w 289, 3), (6, .invokestatic 42, 3), (9, .ifCond .eq 11, 3), (12, .aload_n 0, 1), (13, .iload_n 1, 1), (14, .invokevirtual 291, 3), (17, .goto 9, 3), (20, .aload_n 0, 1), (21, .bipush (-2), 2), (23, .invokevirtual 69, 3), (26, .ireturn, 1)]
def inX12_digest : List (Nat × Instr × Nat) := [(0, .ldc2_w 294, 3), (3, .lstore_n 1, 1), (4, .iconst 0, 1), (5, .istore_n 3, 1), (6, .iload_n 3, 1), (7, .bipush 11, 2), (9, .if_icmp .ge 22, 3), (12, .ldc2_w 296, 3), (15, .lload_n 1, 1), (16, .lmul, 1), (17, .aload_n 0, 1), (18, .iload_n 3, 1), (19, .invokevirtual 291, 3), (22, .i2l, 1), (23, .ladd, 1), (24, .lstore_n 1, 1), (25, .iinc 3 1, 3), (28, .goto (-22), 3), (31, .iconst 0, 1), (32, .istore_n 3, 1), (33, .iload_n 3, 1), (34, .aload_n 0, 1), (35, .getfield 7, 3), (38, .iconst 0, 1), (39, .iaload, 1), (40, .if_icmp .ge 54, 3), (43, .iconst 0, 1), (44, .istore 4, 2), (46, .iload 4, 2), (48, .bipush 6, 2), (50, .if_icmp .ge 38, 3), (53, .ldc2_w 296, 3), (56, .lload_n 1, 1), (57, .lmul, 1), (58, .iload 4, 2), (60, .iconst 5, 1), (61, .if_icmp .ge 13, 3), (64, .aload_n 0, 1), (65, .iload_n 3, 1), (66, .iload 4, 2), (68, .invokevirtual 52, 3), (71, .goto 8, 3), (74, .aload_n 0, 1), (75, .iload_n 3, 1), (76, .invokevirtual 84, 3), (79, .i2l, 1), (80, .ladd, 1), (81, .lstore_n 1, 1), (82, .iinc 4 1, 3), (85, .goto (-39), 3), (88, .iinc 3 1, 3), (91, .goto (-58), 3), (94, .iconst 0, 1), (95, .istore_n 3, 1), (96, .iload_n 3, 1), (97, .aload_n 0, 1), (98, .getfield 7, 3), (101, .iconst 1, 1), (102, .iaload, 1), (103, .if_icmp .ge 40, 3), (106, .iconst 0, 1), (107, .istore 4, 2), (109, .iload 4, 2), (111, .bipush 7, 2), (113, .if_icmp .ge 24, 3), (116, .ldc2_w 296, 3), (119, .lload_n 1, 1), (120, .lmul, 1), (121, .aload_n 0, 1), (122, .iload_n 3, 1), (123, .iload 4, 2), (125, .invokevirtual 206, 3), (128, .i2l, 1), (129, .ladd, 1), (130, .lstore_n 1, 1), (131, .iinc 4 1, 3), (134, .goto (-25), 3), (137, .iinc 3 1, 3), (140, .goto (-44), 3), (143, .iconst 0, 1), (144, .istore_n 3, 1), (145, .iload_n 3, 1), (146, .bipush 7, 2), (148, .if_icmp .ge 22, 3), (151, .ldc2_w 296, 3), (154, .lload_n 1, 1), (155, .lmul, 1), (156, .aload_n 0, 1), (157, .iload_n 3, 1), (158, .invokevirtual 298, 3), (161, .i2l, 1), (162, .ladd, 1), (163, .lstore_n 1, 1), (164, .iinc 3 1, 3), (167, .goto (-22), 3), (170, .iconst 0, 1), (171, .istore_n 3, 1), (172, .iload_n 3, 1), (173, .bipush 6, 2), (175, .if_icmp .ge 27, 3), (178, .ldc2_w 296, 3), (181, .lload_n 1, 1), (182, .lmul, 1), (183, .aload_n 0, 1), (184, .getfield 7, 3), (187, .sipush 134, 3), (190, .iload_n 3, 1), (191, .iadd, 1), (192, .iaload, 1), (193, .i2l, 1), (194, .ladd, 1), (195, .lstore_n 1, 1), (196, .iinc 3 1, 3), (199, .goto (-27), 3), (202, .ldc2_w 296, 3), (205, .lload_n 1, 1), (206, .lmul, 1), (207, .aload_n 0, 1), (208, .invokevirtual 246, 3), (211, .i2l, 1), (212, .ladd, 1), (213, .lstore_n 1, 1), (214, .ldc2_w 296, 3), (217, .lload_n 1, 1), (218, .lmul, 1), (219, .aload_n 0, 1), (220, .iconst (-1), 1), (221, .invokevirtual 160, 3), (224, .i2l, 1), (225, .ladd, 1), (226, .lstore_n 1, 1), (227, .ldc2_w 296, 3), (230, .lload_n 1, 1), (231, .lmul, 1), (232, .aload_n 0, 1), (233, .invokevirtual 168, 3), (236, .i2l, 1), (237, .ladd, 1), (238, .lreturn, 1)]
def inJ6_bitCount_0f7a4 : List (Nat × Instr × Nat) := [(0, .iload_n 0, 1), (1, .iload_n 0, 1), (2, .iconst 1, 1), (3, .iushr, 1), (4, .ldc_w 265, 3), (7, .iand, 1), (8, .isub, 1), (9, .istore_n 0, 1), (10, .iload_n 0, 1), (11, .ldc_w 266, 3), (14, .iand, 1), (15, .iload_n 0, 1), (16, .iconst 2, 1), (17, .iushr, 1), (18, .ldc_w 266, 3), (21, .iand, 1), (22, .iadd, 1), (23, .istore_n 0, 1), (24, .iload_n 0, 1), (25, .iload_n 0, 1), (26, .iconst 4, 1), (27, .iushr, 1), (28, .iadd, 1), (29, .ldc_w 267, 3), (32, .iand, 1), (33, .istore_n 0, 1), (34, .iload_n 0, 1), (35, .iload_n 0, 1), (36, .bipush 8, 2), (38, .iushr, 1), (39, .iadd, 1), (40, .istore_n 0, 1), (41, .iload_n 0, 1), (42, .iload_n 0, 1), (43, .bipush 16, 2), (45, .iushr, 1), (46, .iadd, 1), (47, .istore_n 0, 1), (48, .iload_n 0, 1), (49, .bipush 63, 2), (51, .iand, 1), (52, .ireturn, 1)]
def inJ9_abs_0f7a4 : List (Nat × Instr × Nat) := [(0, .iload_n 0, 1), (1, .ifCond .ge 8, 3), (4, .iload_n 0, 1), (5, .ineg, 1), (6, .goto 4, 3), (9, .iload_n 0, 1), (10, .ireturn, 1)]
def inJ9_max_7cf53 : List (Nat × Instr × Nat) := [(0, .iload_n 0, 1), (1, .iload_n 1, 1), (2, .if_icmp .lt 7, 3), (5, .iload_n 0, 1), (6, .goto 4, 3), (9, .iload_n 1, 1), (10, .ireturn, 1)]
def inJ9_min_7cf53 : List (Nat × Instr × Nat) := [(0, .iload_n 0, 1), (1, .iload_n 1, 1), (2, .if_icmp .gt 7, 3), (5, .iload_n 0, 1), (6, .goto 4, 3), (9, .iload_n 1, 1), (10, .ireturn, 1)]
def inJ7_fill_53178 : List (Nat × Instr × Nat) := [(0, .iconst 0, 1), (1, .istore_n 2, 1), (2, .aload_n 0, 1), (3, .arraylength, 1), (4, .istore_n 3, 1), (5, .iload_n 2, 1), (6, .iload_n 3, 1), (7, .if_icmp .ge 13, 3), (10, .aload_n 0, 1), (11, .iload_n 2, 1), (12, .iload_n 1, 1), (13, .iastore, 1), (14, .iinc 2 1, 3), (17, .goto (-12), 3), (20, .return_, 1)]
end
section
theorem dkX0_init : ∀ q ∈ inX0_init, decode cX0_init q.1 = .ok q.2 := by decide +kernel
theorem dkX0_arrange : ∀ q ∈ inX0_arrange, decode cX0_arrange q.1 = .ok q.2 := by decide +kernel
theorem dkX0_placeFrom : ∀ q ∈ inX0_placeFrom, decode cX0_placeFrom q.1 = .ok q.2 := by decide +kernel
theorem dkX0_lengthTo : ∀ q ∈ inX0_lengthTo, decode cX0_lengthTo q.1 = .ok q.2 := by decide +kernel
theorem dkX1_init : ∀ q ∈ inX1_init, decode cX1_init q.1 = .ok q.2 := by decide +kernel
theorem dkX1_find : ∀ q ∈ inX1_find, decode cX1_find q.1 = .ok q.2 := by decide +kernel
theorem dkX1_join : ∀ q ∈ inX1_join, decode cX1_join q.1 = .ok q.2 := by decide +kernel
theorem dkX1_number : ∀ q ∈ inX1_number, decode cX1_number q.1 = .ok q.2 := by decide +kernel
theorem dkX1_greatest : ∀ q ∈ inX1_greatest, decode cX1_greatest q.1 = .ok q.2 := by decide +kernel
theorem dkX2_init : ∀ q ∈ inX2_init, decode cX2_init q.1 = .ok q.2 := by decide +kernel
theorem dkX2_compare : ∀ q ∈ inX2_compare, decode cX2_compare q.1 = .ok q.2 := by decide +kernel
theorem dkX2_minimalPairs : ∀ q ∈ inX2_minimalPairs, decode cX2_minimalPairs q.1 = .ok q.2 := by decide +kernel
theorem dkX2_isSufficient : ∀ q ∈ inX2_isSufficient, decode cX2_isSufficient q.1 = .ok q.2 := by decide +kernel
theorem dkX2_leastSufficient : ∀ q ∈ inX2_leastSufficient, decode cX2_leastSufficient q.1 = .ok q.2 := by decide +kernel
theorem dkX3_init : ∀ q ∈ inX3_init, decode cX3_init q.1 = .ok q.2 := by decide +kernel
theorem dkX3_copyFrom : ∀ q ∈ inX3_copyFrom, decode cX3_copyFrom q.1 = .ok q.2 := by decide +kernel
theorem dkX3_holds : ∀ q ∈ inX3_holds, decode cX3_holds q.1 = .ok q.2 := by decide +kernel
theorem dkX3_trait : ∀ q ∈ inX3_trait, decode cX3_trait q.1 = .ok q.2 := by decide +kernel
theorem dkX3_setTrait : ∀ q ∈ inX3_setTrait, decode cX3_setTrait q.1 = .ok q.2 := by decide +kernel
theorem dkX3_weightOf : ∀ q ∈ inX3_weightOf, decode cX3_weightOf q.1 = .ok q.2 := by decide +kernel
theorem dkX3_setWeight : ∀ q ∈ inX3_setWeight, decode cX3_setWeight q.1 = .ok q.2 := by decide +kernel
theorem dkX3_ask : ∀ q ∈ inX3_ask, decode cX3_ask q.1 = .ok q.2 := by decide +kernel
theorem dkX3_addSign : ∀ q ∈ inX3_addSign, decode cX3_addSign q.1 = .ok q.2 := by decide +kernel
theorem dkX3_appendAsked : ∀ q ∈ inX3_appendAsked, decode cX3_appendAsked q.1 = .ok q.2 := by decide +kernel
theorem dkX3_hasEqual : ∀ q ∈ inX3_hasEqual, decode cX3_hasEqual q.1 = .ok q.2 := by decide +kernel
theorem dkX3_change : ∀ q ∈ inX3_change, decode cX3_change q.1 = .ok q.2 := by decide +kernel
theorem dkX3_remove : ∀ q ∈ inX3_remove, decode cX3_remove q.1 = .ok q.2 := by decide +kernel
theorem dkX3_addRandom : ∀ q ∈ inX3_addRandom, decode cX3_addRandom q.1 = .ok q.2 := by decide +kernel
theorem dkX3_countOfSort : ∀ q ∈ inX3_countOfSort, decode cX3_countOfSort q.1 = .ok q.2 := by decide +kernel
theorem dkX3_differingParts : ∀ q ∈ inX3_differingParts, decode cX3_differingParts q.1 = .ok q.2 := by decide +kernel
theorem dkX3_gap : ∀ q ∈ inX3_gap, decode cX3_gap q.1 = .ok q.2 := by decide +kernel
theorem dkX3_faceGap : ∀ q ∈ inX3_faceGap, decode cX3_faceGap q.1 = .ok q.2 := by decide +kernel
theorem dkX3_distance : ∀ q ∈ inX3_distance, decode cX3_distance q.1 = .ok q.2 := by decide +kernel
theorem dkX3_matches : ∀ q ∈ inX3_matches, decode cX3_matches q.1 = .ok q.2 := by decide +kernel
theorem dkX3_matchesAsked : ∀ q ∈ inX3_matchesAsked, decode cX3_matchesAsked q.1 = .ok q.2 := by decide +kernel
theorem dkX3_neighbours : ∀ q ∈ inX3_neighbours, decode cX3_neighbours q.1 = .ok q.2 := by decide +kernel
theorem dkX3_closest : ∀ q ∈ inX3_closest, decode cX3_closest q.1 = .ok q.2 := by decide +kernel
theorem dkX3_extremePair : ∀ q ∈ inX3_extremePair, decode cX3_extremePair q.1 = .ok q.2 := by decide +kernel
theorem dkX4_init : ∀ q ∈ inX4_init, decode cX4_init q.1 = .ok q.2 := by decide +kernel
theorem dkX4_interpret : ∀ q ∈ inX4_interpret, decode cX4_interpret q.1 = .ok q.2 := by decide +kernel
theorem dkX4_interpretWord : ∀ q ∈ inX4_interpretWord, decode cX4_interpretWord q.1 = .ok q.2 := by decide +kernel
theorem dkX4_thingAt : ∀ q ∈ inX4_thingAt, decode cX4_thingAt q.1 = .ok q.2 := by decide +kernel
theorem dkX4_setThing : ∀ q ∈ inX4_setThing, decode cX4_setThing q.1 = .ok q.2 := by decide +kernel
theorem dkX5_init : ∀ q ∈ inX5_init, decode cX5_init q.1 = .ok q.2 := by decide +kernel
theorem dkX5_stage : ∀ q ∈ inX5_stage, decode cX5_stage q.1 = .ok q.2 := by decide +kernel
theorem dkX5_unstage : ∀ q ∈ inX5_unstage, decode cX5_unstage q.1 = .ok q.2 := by decide +kernel
theorem dkX5_keepStaged : ∀ q ∈ inX5_keepStaged, decode cX5_keepStaged q.1 = .ok q.2 := by decide +kernel
theorem dkX5_restore : ∀ q ∈ inX5_restore, decode cX5_restore q.1 = .ok q.2 := by decide +kernel
theorem dkX6_init : ∀ q ∈ inX6_init, decode cX6_init q.1 = .ok q.2 := by decide +kernel
theorem dkX6_follow : ∀ q ∈ inX6_follow, decode cX6_follow q.1 = .ok q.2 := by decide +kernel
theorem dkX6_add : ∀ q ∈ inX6_add, decode cX6_add q.1 = .ok q.2 := by decide +kernel
theorem dkX6_lengthWith : ∀ q ∈ inX6_lengthWith, decode cX6_lengthWith q.1 = .ok q.2 := by decide +kernel
theorem dkX6_setOfSpots : ∀ q ∈ inX6_setOfSpots, decode cX6_setOfSpots q.1 = .ok q.2 := by decide +kernel
theorem dkX7_init : ∀ q ∈ inX7_init, decode cX7_init q.1 = .ok q.2 := by decide +kernel
theorem dkX7_append : ∀ q ∈ inX7_append, decode cX7_append q.1 = .ok q.2 := by decide +kernel
theorem dkX7_empty : ∀ q ∈ inX7_empty, decode cX7_empty q.1 = .ok q.2 := by decide +kernel
theorem dkX7_letter : ∀ q ∈ inX7_letter, decode cX7_letter q.1 = .ok q.2 := by decide +kernel
theorem dkX7_numbers : ∀ q ∈ inX7_numbers, decode cX7_numbers q.1 = .ok q.2 := by decide +kernel
theorem dkX7_number : ∀ q ∈ inX7_number, decode cX7_number q.1 = .ok q.2 := by decide +kernel
theorem dkX7_parse : ∀ q ∈ inX7_parse, decode cX7_parse q.1 = .ok q.2 := by decide +kernel
theorem dkX7_skipBlanks : ∀ q ∈ inX7_skipBlanks, decode cX7_skipBlanks q.1 = .ok q.2 := by decide +kernel
theorem dkX7_current : ∀ q ∈ inX7_current, decode cX7_current q.1 = .ok q.2 := by decide +kernel
theorem dkX7_isAtDigit : ∀ q ∈ inX7_isAtDigit, decode cX7_isAtDigit q.1 = .ok q.2 := by decide +kernel
theorem dkX7_parseOrder : ∀ q ∈ inX7_parseOrder, decode cX7_parseOrder q.1 = .ok q.2 := by decide +kernel
theorem dkX7_parseNumber : ∀ q ∈ inX7_parseNumber, decode cX7_parseNumber q.1 = .ok q.2 := by decide +kernel
theorem dkX7_mostNumbers : ∀ q ∈ inX7_mostNumbers, decode cX7_mostNumbers q.1 = .ok q.2 := by decide +kernel
theorem dkX8_init : ∀ q ∈ inX8_init, decode cX8_init q.1 = .ok q.2 := by decide +kernel
theorem dkX8_copyFrom : ∀ q ∈ inX8_copyFrom, decode cX8_copyFrom q.1 = .ok q.2 := by decide +kernel
theorem dkX8_holds : ∀ q ∈ inX8_holds, decode cX8_holds q.1 = .ok q.2 := by decide +kernel
theorem dkX8_signIn : ∀ q ∈ inX8_signIn, decode cX8_signIn q.1 = .ok q.2 := by decide +kernel
theorem dkX8_from : ∀ q ∈ inX8_from, decode cX8_from q.1 = .ok q.2 := by decide +kernel
theorem dkX8_to : ∀ q ∈ inX8_to, decode cX8_to q.1 = .ok q.2 := by decide +kernel
theorem dkX8_cell : ∀ q ∈ inX8_cell, decode cX8_cell q.1 = .ok q.2 := by decide +kernel
theorem dkX8_countOf : ∀ q ∈ inX8_countOf, decode cX8_countOf q.1 = .ok q.2 := by decide +kernel
theorem dkX8_renumberAbove : ∀ q ∈ inX8_renumberAbove, decode cX8_renumberAbove q.1 = .ok q.2 := by decide +kernel
theorem dkX8_append : ∀ q ∈ inX8_append, decode cX8_append q.1 = .ok q.2 := by decide +kernel
theorem dkX8_put : ∀ q ∈ inX8_put, decode cX8_put q.1 = .ok q.2 := by decide +kernel
theorem dkX8_remove : ∀ q ∈ inX8_remove, decode cX8_remove q.1 = .ok q.2 := by decide +kernel
theorem dkX8_move : ∀ q ∈ inX8_move, decode cX8_move q.1 = .ok q.2 := by decide +kernel
theorem dkX8_moveRows : ∀ q ∈ inX8_moveRows, decode cX8_moveRows q.1 = .ok q.2 := by decide +kernel
theorem dkX8_removeAll : ∀ q ∈ inX8_removeAll, decode cX8_removeAll q.1 = .ok q.2 := by decide +kernel
theorem dkX9_init : ∀ q ∈ inX9_init, decode cX9_init q.1 = .ok q.2 := by decide +kernel
theorem dkX9_copyFrom : ∀ q ∈ inX9_copyFrom, decode cX9_copyFrom q.1 = .ok q.2 := by decide +kernel
theorem dkX9_signProperty : ∀ q ∈ inX9_signProperty, decode cX9_signProperty q.1 = .ok q.2 := by decide +kernel
theorem dkX9_sortOfWord : ∀ q ∈ inX9_sortOfWord, decode cX9_sortOfWord q.1 = .ok q.2 := by decide +kernel
theorem dkX9_removeSign : ∀ q ∈ inX9_removeSign, decode cX9_removeSign q.1 = .ok q.2 := by decide +kernel
theorem dkX9_addWord : ∀ q ∈ inX9_addWord, decode cX9_addWord q.1 = .ok q.2 := by decide +kernel
theorem dkX9_layOne : ∀ q ∈ inX9_layOne, decode cX9_layOne q.1 = .ok q.2 := by decide +kernel
theorem dkX9_layAll : ∀ q ∈ inX9_layAll, decode cX9_layAll q.1 = .ok q.2 := by decide +kernel
theorem dkX10_init : ∀ q ∈ inX10_init, decode cX10_init q.1 = .ok q.2 := by decide +kernel
theorem dkX10_check : ∀ q ∈ inX10_check, decode cX10_check q.1 = .ok q.2 := by decide +kernel
theorem dkX11_init : ∀ q ∈ inX11_init, decode cX11_init q.1 = .ok q.2 := by decide +kernel
theorem dkX11_sign : ∀ q ∈ inX11_sign, decode cX11_sign q.1 = .ok q.2 := by decide +kernel
theorem dkX11_becomes : ∀ q ∈ inX11_becomes, decode cX11_becomes q.1 = .ok q.2 := by decide +kernel
theorem dkX11_drops : ∀ q ∈ inX11_drops, decode cX11_drops q.1 = .ok q.2 := by decide +kernel
theorem dkX11_weight : ∀ q ∈ inX11_weight, decode cX11_weight q.1 = .ok q.2 := by decide +kernel
theorem dkX11_draws : ∀ q ∈ inX11_draws, decode cX11_draws q.1 = .ok q.2 := by decide +kernel
theorem dkX11_of : ∀ q ∈ inX11_of, decode cX11_of q.1 = .ok q.2 := by decide +kernel
theorem dkX11_apart : ∀ q ∈ inX11_apart, decode cX11_apart q.1 = .ok q.2 := by decide +kernel
theorem dkX11_look : ∀ q ∈ inX11_look, decode cX11_look q.1 = .ok q.2 := by decide +kernel
theorem dkX11_near : ∀ q ∈ inX11_near, decode cX11_near q.1 = .ok q.2 := by decide +kernel
theorem dkX11_nearest : ∀ q ∈ inX11_nearest, decode cX11_nearest q.1 = .ok q.2 := by decide +kernel
theorem dkX11_sorts : ∀ q ∈ inX11_sorts, decode cX11_sorts q.1 = .ok q.2 := by decide +kernel
theorem dkX11_groups : ∀ q ∈ inX11_groups, decode cX11_groups q.1 = .ok q.2 := by decide +kernel
theorem dkX11_twins : ∀ q ∈ inX11_twins, decode cX11_twins q.1 = .ok q.2 := by decide +kernel
theorem dkX11_enough : ∀ q ∈ inX11_enough, decode cX11_enough q.1 = .ok q.2 := by decide +kernel
theorem dkX11_span : ∀ q ∈ inX11_span, decode cX11_span q.1 = .ok q.2 := by decide +kernel
theorem dkX11_word : ∀ q ∈ inX11_word, decode cX11_word q.1 = .ok q.2 := by decide +kernel
theorem dkX11_cuts : ∀ q ∈ inX11_cuts, decode cX11_cuts q.1 = .ok q.2 := by decide +kernel
theorem dkX11_shifts : ∀ q ∈ inX11_shifts, decode cX11_shifts q.1 = .ok q.2 := by decide +kernel
theorem dkX11_clears : ∀ q ∈ inX11_clears, decode cX11_clears q.1 = .ok q.2 := by decide +kernel
theorem dkX11_wordOf : ∀ q ∈ inX11_wordOf, decode cX11_wordOf q.1 = .ok q.2 := by decide +kernel
theorem dkX11_at : ∀ q ∈ inX11_at, decode cX11_at q.1 = .ok q.2 := by decide +kernel
theorem dkX11_all : ∀ q ∈ inX11_all, decode cX11_all q.1 = .ok q.2 := by decide +kernel
theorem dkX11_lays : ∀ q ∈ inX11_lays, decode cX11_lays q.1 = .ok q.2 := by decide +kernel
theorem dkX11_lay : ∀ q ∈ inX11_lay, decode cX11_lay q.1 = .ok q.2 := by decide +kernel
theorem dkX11_best : ∀ q ∈ inX11_best, decode cX11_best q.1 = .ok q.2 := by decide +kernel
theorem dkX11_settles : ∀ q ∈ inX11_settles, decode cX11_settles q.1 = .ok q.2 := by decide +kernel
theorem dkX11_type : ∀ q ∈ inX11_type, decode cX11_type q.1 = .ok q.2 := by decide +kernel
theorem dkX11_clear : ∀ q ∈ inX11_clear, decode cX11_clear q.1 = .ok q.2 := by decide +kernel
theorem dkX11_reads : ∀ q ∈ inX11_reads, decode cX11_reads q.1 = .ok q.2 := by decide +kernel
theorem dkX11_back : ∀ q ∈ inX11_back, decode cX11_back q.1 = .ok q.2 := by decide +kernel
theorem dkX11_told : ∀ q ∈ inX11_told, decode cX11_told q.1 = .ok q.2 := by decide +kernel
theorem dkX11_digest : ∀ q ∈ inX11_digest, decode cX11_digest q.1 = .ok q.2 := by decide +kernel
theorem dkX11_isWithin : ∀ q ∈ inX11_isWithin, decode cX11_isWithin q.1 = .ok q.2 := by decide +kernel
theorem dkX11_areWithin : ∀ q ∈ inX11_areWithin, decode cX11_areWithin q.1 = .ok q.2 := by decide +kernel
theorem dkX11_isSpot : ∀ q ∈ inX11_isSpot, decode cX11_isSpot q.1 = .ok q.2 := by decide +kernel
theorem dkX11_counted : ∀ q ∈ inX11_counted, decode cX11_counted q.1 = .ok q.2 := by decide +kernel
theorem dkX11_undoable : ∀ q ∈ inX11_undoable, decode cX11_undoable q.1 = .ok q.2 := by decide +kernel
theorem dkX11_execute : ∀ q ∈ inX11_execute, decode cX11_execute q.1 = .ok q.2 := by decide +kernel
theorem dkX11_examineSentence : ∀ q ∈ inX11_examineSentence, decode cX11_examineSentence q.1 = .ok q.2 := by decide +kernel
theorem dkX11_findBestArrangement : ∀ q ∈ inX11_findBestArrangement, decode cX11_findBestArrangement q.1 = .ok q.2 := by decide +kernel
theorem dkX11_wordProperty : ∀ q ∈ inX11_wordProperty, decode cX11_wordProperty q.1 = .ok q.2 := by decide +kernel
theorem dkX11_sentenceProperty : ∀ q ∈ inX11_sentenceProperty, decode cX11_sentenceProperty q.1 = .ok q.2 := by decide +kernel
theorem dkX11_figure : ∀ q ∈ inX11_figure, decode cX11_figure q.1 = .ok q.2 := by decide +kernel
theorem dkX11_mixed : ∀ q ∈ inX11_mixed, decode cX11_mixed q.1 = .ok q.2 := by decide +kernel
theorem dkX11_withSigns : ∀ q ∈ inX11_withSigns, decode cX11_withSigns q.1 = .ok q.2 := by decide +kernel
theorem dkX11_withWords : ∀ q ∈ inX11_withWords, decode cX11_withWords q.1 = .ok q.2 := by decide +kernel
theorem dkX12_init : ∀ q ∈ inX12_init, decode cX12_init q.1 = .ok q.2 := by decide +kernel
theorem dkX12_in : ∀ q ∈ inX12_in, decode cX12_in q.1 = .ok q.2 := by decide +kernel
theorem dkX12_has : ∀ q ∈ inX12_has, decode cX12_has q.1 = .ok q.2 := by decide +kernel
theorem dkX12_off : ∀ q ∈ inX12_off, decode cX12_off q.1 = .ok q.2 := by decide +kernel
theorem dkX12_refuses : ∀ q ∈ inX12_refuses, decode cX12_refuses q.1 = .ok q.2 := by decide +kernel
theorem dkX12_copy : ∀ q ∈ inX12_copy, decode cX12_copy q.1 = .ok q.2 := by decide +kernel
theorem dkX12_minds : ∀ q ∈ inX12_minds, decode cX12_minds q.1 = .ok q.2 := by decide +kernel
theorem dkX12_isSign : ∀ q ∈ inX12_isSign, decode cX12_isSign q.1 = .ok q.2 := by decide +kernel
theorem dkX12_part : ∀ q ∈ inX12_part, decode cX12_part q.1 = .ok q.2 := by decide +kernel
theorem dkX12_isPart : ∀ q ∈ inX12_isPart, decode cX12_isPart q.1 = .ok q.2 := by decide +kernel
theorem dkX12_areParts : ∀ q ∈ inX12_areParts, decode cX12_areParts q.1 = .ok q.2 := by decide +kernel
theorem dkX12_signOf : ∀ q ∈ inX12_signOf, decode cX12_signOf q.1 = .ok q.2 := by decide +kernel
theorem dkX12_canSign : ∀ q ∈ inX12_canSign, decode cX12_canSign q.1 = .ok q.2 := by decide +kernel
theorem dkX12_adds : ∀ q ∈ inX12_adds, decode cX12_adds q.1 = .ok q.2 := by decide +kernel
theorem dkX12_sign : ∀ q ∈ inX12_sign, decode cX12_sign q.1 = .ok q.2 := by decide +kernel
theorem dkX12_becomes : ∀ q ∈ inX12_becomes, decode cX12_becomes q.1 = .ok q.2 := by decide +kernel
theorem dkX12_wordsWith : ∀ q ∈ inX12_wordsWith, decode cX12_wordsWith q.1 = .ok q.2 := by decide +kernel
theorem dkX12_canDrop : ∀ q ∈ inX12_canDrop, decode cX12_canDrop q.1 = .ok q.2 := by decide +kernel
theorem dkX12_goes : ∀ q ∈ inX12_goes, decode cX12_goes q.1 = .ok q.2 := by decide +kernel
theorem dkX12_drops : ∀ q ∈ inX12_drops, decode cX12_drops q.1 = .ok q.2 := by decide +kernel
theorem dkX12_isWeight : ∀ q ∈ inX12_isWeight, decode cX12_isWeight q.1 = .ok q.2 := by decide +kernel
theorem dkX12_weight : ∀ q ∈ inX12_weight, decode cX12_weight q.1 = .ok q.2 := by decide +kernel
theorem dkX12_next : ∀ q ∈ inX12_next, decode cX12_next q.1 = .ok q.2 := by decide +kernel
theorem dkX12_draws : ∀ q ∈ inX12_draws, decode cX12_draws q.1 = .ok q.2 := by decide +kernel
theorem dkX12_of : ∀ q ∈ inX12_of, decode cX12_of q.1 = .ok q.2 := by decide +kernel
theorem dkX12_ones : ∀ q ∈ inX12_ones, decode cX12_ones q.1 = .ok q.2 := by decide +kernel
theorem dkX12_apartBy : ∀ q ∈ inX12_apartBy, decode cX12_apartBy q.1 = .ok q.2 := by decide +kernel
theorem dkX12_apartOf : ∀ q ∈ inX12_apartOf, decode cX12_apartOf q.1 = .ok q.2 := by decide +kernel
theorem dkX12_between : ∀ q ∈ inX12_between, decode cX12_between q.1 = .ok q.2 := by decide +kernel
theorem dkX12_apart : ∀ q ∈ inX12_apart, decode cX12_apart q.1 = .ok q.2 := by decide +kernel
theorem dkX12_isAsked : ∀ q ∈ inX12_isAsked, decode cX12_isAsked q.1 = .ok q.2 := by decide +kernel
theorem dkX12_isSo : ∀ q ∈ inX12_isSo, decode cX12_isSo q.1 = .ok q.2 := by decide +kernel
theorem dkX12_look : ∀ q ∈ inX12_look, decode cX12_look q.1 = .ok q.2 := by decide +kernel
theorem dkX12_nearOf : ∀ q ∈ inX12_nearOf, decode cX12_nearOf q.1 = .ok q.2 := by decide +kernel
theorem dkX12_near : ∀ q ∈ inX12_near, decode cX12_near q.1 = .ok q.2 := by decide +kernel
theorem dkX12_nearest : ∀ q ∈ inX12_nearest, decode cX12_nearest q.1 = .ok q.2 := by decide +kernel
theorem dkX12_sorts : ∀ q ∈ inX12_sorts, decode cX12_sorts q.1 = .ok q.2 := by decide +kernel
theorem dkX12_group : ∀ q ∈ inX12_group, decode cX12_group q.1 = .ok q.2 := by decide +kernel
theorem dkX12_groups : ∀ q ∈ inX12_groups, decode cX12_groups q.1 = .ok q.2 := by decide +kernel
theorem dkX12_unlike : ∀ q ∈ inX12_unlike, decode cX12_unlike q.1 = .ok q.2 := by decide +kernel
theorem dkX12_twinsBy : ∀ q ∈ inX12_twinsBy, decode cX12_twinsBy q.1 = .ok q.2 := by decide +kernel
theorem dkX12_twins : ∀ q ∈ inX12_twins, decode cX12_twins q.1 = .ok q.2 := by decide +kernel
theorem dkX12_isEnough : ∀ q ∈ inX12_isEnough, decode cX12_isEnough q.1 = .ok q.2 := by decide +kernel
theorem dkX12_leastEnough : ∀ q ∈ inX12_leastEnough, decode cX12_leastEnough q.1 = .ok q.2 := by decide +kernel
theorem dkX12_enough : ∀ q ∈ inX12_enough, decode cX12_enough q.1 = .ok q.2 := by decide +kernel
theorem dkX12_span : ∀ q ∈ inX12_span, decode cX12_span q.1 = .ok q.2 := by decide +kernel
theorem dkX12_isWord : ∀ q ∈ inX12_isWord, decode cX12_isWord q.1 = .ok q.2 := by decide +kernel
theorem dkX12_said : ∀ q ∈ inX12_said, decode cX12_said q.1 = .ok q.2 := by decide +kernel
theorem dkX12_sortOf : ∀ q ∈ inX12_sortOf, decode cX12_sortOf q.1 = .ok q.2 := by decide +kernel
theorem dkX12_isSpot : ∀ q ∈ inX12_isSpot, decode cX12_isSpot q.1 = .ok q.2 := by decide +kernel
theorem dkX12_canSay : ∀ q ∈ inX12_canSay, decode cX12_canSay q.1 = .ok q.2 := by decide +kernel
theorem dkX12_says : ∀ q ∈ inX12_says, decode cX12_says q.1 = .ok q.2 := by decide +kernel
theorem dkX12_word : ∀ q ∈ inX12_word, decode cX12_word q.1 = .ok q.2 := by decide +kernel
theorem dkX12_cuts : ∀ q ∈ inX12_cuts, decode cX12_cuts q.1 = .ok q.2 := by decide +kernel
theorem dkX12_swaps : ∀ q ∈ inX12_swaps, decode cX12_swaps q.1 = .ok q.2 := by decide +kernel
theorem dkX12_shifts : ∀ q ∈ inX12_shifts, decode cX12_shifts q.1 = .ok q.2 := by decide +kernel
theorem dkX12_clearsAll : ∀ q ∈ inX12_clearsAll, decode cX12_clearsAll q.1 = .ok q.2 := by decide +kernel
theorem dkX12_clears : ∀ q ∈ inX12_clears, decode cX12_clears q.1 = .ok q.2 := by decide +kernel
theorem dkX12_atSpot : ∀ q ∈ inX12_atSpot, decode cX12_atSpot q.1 = .ok q.2 := by decide +kernel
theorem dkX12_meant : ∀ q ∈ inX12_meant, decode cX12_meant q.1 = .ok q.2 := by decide +kernel
theorem dkX12_isVain : ∀ q ∈ inX12_isVain, decode cX12_isVain q.1 = .ok q.2 := by decide +kernel
theorem dkX12_clauseOf : ∀ q ∈ inX12_clauseOf, decode cX12_clauseOf q.1 = .ok q.2 := by decide +kernel
theorem dkX12_wordIs : ∀ q ∈ inX12_wordIs, decode cX12_wordIs q.1 = .ok q.2 := by decide +kernel
theorem dkX12_wordOf : ∀ q ∈ inX12_wordOf, decode cX12_wordOf q.1 = .ok q.2 := by decide +kernel
theorem dkX12_at : ∀ q ∈ inX12_at, decode cX12_at q.1 = .ok q.2 := by decide +kernel
theorem dkX12_rank : ∀ q ∈ inX12_rank, decode cX12_rank q.1 = .ok q.2 := by decide +kernel
theorem dkX12_swapsOfAll : ∀ q ∈ inX12_swapsOfAll, decode cX12_swapsOfAll q.1 = .ok q.2 := by decide +kernel
theorem dkX12_ordered : ∀ q ∈ inX12_ordered, decode cX12_ordered q.1 = .ok q.2 := by decide +kernel
theorem dkX12_clauses : ∀ q ∈ inX12_clauses, decode cX12_clauses q.1 = .ok q.2 := by decide +kernel
theorem dkX12_moved : ∀ q ∈ inX12_moved, decode cX12_moved q.1 = .ok q.2 := by decide +kernel
theorem dkX12_vain : ∀ q ∈ inX12_vain, decode cX12_vain q.1 = .ok q.2 := by decide +kernel
theorem dkX12_spots : ∀ q ∈ inX12_spots, decode cX12_spots q.1 = .ok q.2 := by decide +kernel
theorem dkX12_way : ∀ q ∈ inX12_way, decode cX12_way q.1 = .ok q.2 := by decide +kernel
theorem dkX12_wayNow : ∀ q ∈ inX12_wayNow, decode cX12_wayNow q.1 = .ok q.2 := by decide +kernel
theorem dkX12_all : ∀ q ∈ inX12_all, decode cX12_all q.1 = .ok q.2 := by decide +kernel
theorem dkX12_spotAt : ∀ q ∈ inX12_spotAt, decode cX12_spotAt q.1 = .ok q.2 := by decide +kernel
theorem dkX12_lays : ∀ q ∈ inX12_lays, decode cX12_lays q.1 = .ok q.2 := by decide +kernel
theorem dkX12_lay : ∀ q ∈ inX12_lay, decode cX12_lay q.1 = .ok q.2 := by decide +kernel
theorem dkX12_tries : ∀ q ∈ inX12_tries, decode cX12_tries q.1 = .ok q.2 := by decide +kernel
theorem dkX12_bestWay : ∀ q ∈ inX12_bestWay, decode cX12_bestWay q.1 = .ok q.2 := by decide +kernel
theorem dkX12_best : ∀ q ∈ inX12_best, decode cX12_best q.1 = .ok q.2 := by decide +kernel
theorem dkX12_settles : ∀ q ∈ inX12_settles, decode cX12_settles q.1 = .ok q.2 := by decide +kernel
theorem dkX12_type : ∀ q ∈ inX12_type, decode cX12_type q.1 = .ok q.2 := by decide +kernel
theorem dkX12_clear : ∀ q ∈ inX12_clear, decode cX12_clear q.1 = .ok q.2 := by decide +kernel
theorem dkX12_byteHere : ∀ q ∈ inX12_byteHere, decode cX12_byteHere q.1 = .ok q.2 := by decide +kernel
theorem dkX12_blanks : ∀ q ∈ inX12_blanks, decode cX12_blanks q.1 = .ok q.2 := by decide +kernel
theorem dkX12_least : ∀ q ∈ inX12_least, decode cX12_least q.1 = .ok q.2 := by decide +kernel
theorem dkX12_isFigure : ∀ q ∈ inX12_isFigure, decode cX12_isFigure q.1 = .ok q.2 := by decide +kernel
theorem dkX12_readsOrder : ∀ q ∈ inX12_readsOrder, decode cX12_readsOrder q.1 = .ok q.2 := by decide +kernel
theorem dkX12_readsAll : ∀ q ∈ inX12_readsAll, decode cX12_readsAll q.1 = .ok q.2 := by decide +kernel
theorem dkX12_laysAll : ∀ q ∈ inX12_laysAll, decode cX12_laysAll q.1 = .ok q.2 := by decide +kernel
theorem dkX12_does : ∀ q ∈ inX12_does, decode cX12_does q.1 = .ok q.2 := by decide +kernel
theorem dkX12_reads : ∀ q ∈ inX12_reads, decode cX12_reads q.1 = .ok q.2 := by decide +kernel
theorem dkX12_back : ∀ q ∈ inX12_back, decode cX12_back q.1 = .ok q.2 := by decide +kernel
theorem dkX12_tells : ∀ q ∈ inX12_tells, decode cX12_tells q.1 = .ok q.2 := by decide +kernel
theorem dkX12_told : ∀ q ∈ inX12_told, decode cX12_told q.1 = .ok q.2 := by decide +kernel
theorem dkX12_digest : ∀ q ∈ inX12_digest, decode cX12_digest q.1 = .ok q.2 := by decide +kernel
theorem dkJ6_bitCount_0f7a4 : ∀ q ∈ inJ6_bitCount_0f7a4, decode cJ6_bitCount_0f7a4 q.1 = .ok q.2 := by decide +kernel
theorem dkJ9_abs_0f7a4 : ∀ q ∈ inJ9_abs_0f7a4, decode cJ9_abs_0f7a4 q.1 = .ok q.2 := by decide +kernel
theorem dkJ9_max_7cf53 : ∀ q ∈ inJ9_max_7cf53, decode cJ9_max_7cf53 q.1 = .ok q.2 := by decide +kernel
theorem dkJ9_min_7cf53 : ∀ q ∈ inJ9_min_7cf53, decode cJ9_min_7cf53 q.1 = .ok q.2 := by decide +kernel
theorem dkJ7_fill_53178 : ∀ q ∈ inJ7_fill_53178, decode cJ7_fill_53178 q.1 = .ok q.2 := by decide +kernel
end
section
def J (z : Int) : Int32 := Int32.ofInt z
def JL (z : Int) : Int64 := Int64.ofInt z
/-! ===== whole numbers under J ===== -/
abbrev rg (a : Int) : Prop := -2147483648 ≤ a ∧ a < 2147483648
abbrev rl (a : Int) : Prop := -9223372036854775808 ≤ a ∧ a < 9223372036854775808
def ia (a b : Int) : Int := ((a.toNat &&& b.toNat : Nat) : Int)
def io (a b : Int) : Int := ((a.toNat ||| b.toNat : Nat) : Int)
def ix (a b : Int) : Int := ((a.toNat ^^^ b.toNat : Nat) : Int)
theorem J_toInt {a : Int} (h : rg a) : (J a).toInt = a := Int32.toInt_ofInt_of_le (by have := h.1; omega) (by have := h.2; omega)
theorem JL_toInt {a : Int} (h : rl a) : (JL a).toInt = a := Int64.toInt_ofInt_of_le (by have := h.1; omega) (by have := h.2; omega)
theorem J_of (x : Int32) : x = J x.toInt := (Int32.ofInt_toInt x).symm
theorem J_rg (x : Int32) : rg x.toInt := ⟨by have := x.le_toInt; omega, by have := x.toInt_lt; omega⟩
theorem J_add (a b : Int) : J a + J b = J (a + b) := (Int32.ofInt_add a b).symm
theorem J_sub (a b : Int) : J a - J b = J (a - b) := (Int32.ofInt_sub a b).symm
theorem J_mul (a b : Int) : J a * J b = J (a * b) := (Int32.ofInt_mul a b).symm
theorem J_neg (a : Int) : - J a = J (-a) := Int32.neg_ofInt
theorem JL_add (a b : Int) : JL a + JL b = JL (a + b) := (Int64.ofInt_add a b).symm
theorem JL_mul (a b : Int) : JL a * JL b = JL (a * b) := (Int64.ofInt_mul a b).symm
theorem JL_sub (a b : Int) : JL a - JL b = JL (a - b) := (Int64.ofInt_sub a b).symm
theorem J_lt {a b : Int} (ha : rg a) (hb : rg b) : J a < J b ↔ a < b := by rw [Int32.lt_iff_toInt_lt, J_toInt ha, J_toInt hb]
theorem J_le {a b : Int} (ha : rg a) (hb : rg b) : J a ≤ J b ↔ a ≤ b := by rw [Int32.le_iff_toInt_le, J_toInt ha, J_toInt hb]
theorem J_eq {a b : Int} (ha : rg a) (hb : rg b) : J a = J b ↔ a = b := ⟨fun h => by rw [← J_toInt ha, ← J_toInt hb, h], fun h => by rw [h]⟩
theorem JL_lt {a b : Int} (ha : rl a) (hb : rl b) : JL a < JL b ↔ a < b := by rw [Int64.lt_iff_toInt_lt, JL_toInt ha, JL_toInt hb]
theorem JL_eq {a b : Int} (ha : rl a) (hb : rl b) : JL a = JL b ↔ a = b := ⟨fun h => by rw [← JL_toInt ha, ← JL_toInt hb, h], fun h => by rw [h]⟩
theorem J_0 : J 0 = 0 := rfl
theorem rg_0 : rg 0 := ⟨by decide, by decide⟩
theorem J_ne0 {b : Int} (hb : rg b) (h : b ≠ 0) : ¬ J b = 0 := fun e => h ((J_eq hb rg_0).mp e)
theorem JL_ne0 {b : Int} (hb : rl b) (h : b ≠ 0) : ¬ JL b = 0 := fun e => h ((JL_eq hb ⟨by decide, by decide⟩).mp (e.trans rfl))
theorem J_div {a b : Int} (ha : rg a) (hb : rg b) (h0 : 0 ≤ a) (h1 : 0 < b) : J a / J b = J (a / b) := by
  apply Int32.toInt.inj
  have hle : a / b ≤ a := Int.ediv_le_self b h0
  have hge : 0 ≤ a / b := Int.ediv_nonneg h0 (by omega)
  rw [Int32.toInt_div_of_ne_right, J_toInt ha, J_toInt hb, J_toInt ⟨by omega, by have := ha.2; omega⟩, Int.tdiv_eq_ediv_of_nonneg h0]
  intro e
  have : J b = J (-1) := e.trans rfl
  have := (J_eq hb ⟨by decide, by decide⟩).mp this
  omega
theorem J_rem {a b : Int} (ha : rg a) (hb : rg b) (h0 : 0 ≤ a) (h1 : 0 < b) : J a - J a / J b * J b = J (a % b) := by
  rw [J_div ha hb h0 h1, J_mul, J_sub]
  congr 1
  have := Int.mul_ediv_add_emod a b
  rw [Int.mul_comm] at this
  omega
theorem JL_div {a b : Int} (ha : rl a) (hb : rl b) (h0 : 0 ≤ a) (h1 : 0 < b) : JL a / JL b = JL (a / b) := by
  apply Int64.toInt.inj
  have hle : a / b ≤ a := Int.ediv_le_self b h0
  have hge : 0 ≤ a / b := Int.ediv_nonneg h0 (by omega)
  rw [Int64.toInt_div_of_ne_right, JL_toInt ha, JL_toInt hb, JL_toInt ⟨by omega, by have := ha.2; omega⟩, Int.tdiv_eq_ediv_of_nonneg h0]
  intro e
  have : JL b = JL (-1) := e.trans rfl
  have := (JL_eq hb ⟨by decide, by decide⟩).mp this
  omega
theorem JL_rem {a b : Int} (ha : rl a) (hb : rl b) (h0 : 0 ≤ a) (h1 : 0 < b) : JL a - JL a / JL b * JL b = JL (a % b) := by
  rw [JL_div ha hb h0 h1, JL_mul, JL_sub]
  congr 1
  have := Int.mul_ediv_add_emod a b
  rw [Int.mul_comm] at this
  omega
theorem J_l {a : Int} (ha : rg a) : (J a).toInt64 = JL a := by
  apply Int64.toInt.inj
  rw [Int32.toInt_toInt64, J_toInt ha, JL_toInt ⟨by have := ha.1; omega, by have := ha.2; omega⟩]
theorem JL_i (a : Int) : (JL a).toInt32 = J a := Int64.toInt32_ofInt
theorem J_nat (n : Nat) : J (n : Int) = nI n := Int32.ofInt_eq_ofNat
theorem J_nn {a : Int} (h : 0 ≤ a) : J a = nI a.toNat := by rw [← J_nat, Int.toNat_of_nonneg h]
theorem nI_bv (n : Nat) : (nI n).toBitVec = BitVec.ofNat 32 n := rfl
theorem J_and {a b : Int} (ha : 0 ≤ a) (hb : 0 ≤ b) : J a &&& J b = J (ia a b) := by
  rw [J_nn ha, J_nn hb, ia, J_nat]
  apply Int32.toBitVec.inj
  rw [Int32.toBitVec_and, nI_bv, nI_bv, nI_bv]
  apply BitVec.eq_of_getLsbD_eq
  intro i hi
  simp [BitVec.getLsbD_ofNat, hi]
theorem J_or {a b : Int} (ha : 0 ≤ a) (hb : 0 ≤ b) : J a ||| J b = J (io a b) := by
  rw [J_nn ha, J_nn hb, io, J_nat]
  apply Int32.toBitVec.inj
  rw [Int32.toBitVec_or, nI_bv, nI_bv, nI_bv]
  apply BitVec.eq_of_getLsbD_eq
  intro i hi
  simp [BitVec.getLsbD_ofNat, hi]
theorem J_xor {a b : Int} (ha : 0 ≤ a) (hb : 0 ≤ b) : J a ^^^ J b = J (ix a b) := by
  rw [J_nn ha, J_nn hb, ix, J_nat]
  apply Int32.toBitVec.inj
  rw [Int32.toBitVec_xor, nI_bv, nI_bv, nI_bv]
  apply BitVec.eq_of_getLsbD_eq
  intro i hi
  simp [BitVec.getLsbD_ofNat, hi]
theorem J_sh : ∀ k : Nat, k < 32 → ((nI k &&& 31).toBitVec.smod 32).toNat = k := by decide +kernel
theorem J_shl {a k : Int} (ha : 0 ≤ a) (hk : 0 ≤ k ∧ k < 32) : J a <<< (J k &&& 31) = J (a * 2 ^ k.toNat) := by
  have e1 : a * 2 ^ k.toNat = ((a.toNat * 2 ^ k.toNat : Nat) : Int) := by
    rw [Int.natCast_mul, Int.toNat_of_nonneg ha]; simp
  rw [e1, J_nat, J_nn hk.1, J_nn ha]
  apply Int32.toBitVec.inj
  apply BitVec.eq_of_toNat_eq
  rw [pk_shl _ _ k.toNat (J_sh _ (by omega)), nI_bv, nI_bv]
  simp [Nat.mod_mul_mod]
theorem J_shr {a k : Int} (ha : 0 ≤ a ∧ a < 2147483648) (hk : 0 ≤ k ∧ k < 32) : J a >>> (J k &&& 31) = J (a / 2 ^ k.toNat) := by
  have e1 : a / 2 ^ k.toNat = ((a.toNat / 2 ^ k.toNat : Nat) : Int) := by
    rw [Int.natCast_ediv, Int.toNat_of_nonneg ha.1]; simp
  rw [e1, J_nat, J_nn hk.1, J_nn ha.1]
  exact pk_shrN (by omega) _ _ (J_sh _ (by omega))
theorem lg_J {a b : Int} (ha : rl a) (hb : rl b) : lg_cmp (JL a) (JL b) = J (if b < a then 1 else if a = b then 0 else -1) := by
  unfold lg_cmp
  by_cases h1 : b < a
  · rw [if_pos ((JL_lt hb ha).mpr h1), if_pos h1]; rfl
  · by_cases h2 : a = b
    · subst h2; simp; rfl
    · rw [if_neg (fun h => h1 ((JL_lt hb ha).mp h)), if_neg (fun h => h2 ((JL_eq ha hb).mp h)), if_neg h1, if_neg h2]; rfl
theorem J_in {z : Int} {n : Nat} (h0 : 0 ≤ z) (h1 : z < n) (hn : n < 2147483648) : vp_in (J z) n := by
  rw [J_nn h0]; exact vp_in_nI (by omega) (by omega)
theorem J_cl {z : Int} (h0 : 0 ≤ z) (h1 : z < 2147483648) : (J z).toNatClampNeg = z.toNat := by
  rw [J_nn h0]; exact nI_clamp (by omega)
end
section
/-! ===== ints of the machine as whole numbers ===== -/
abbrev GG : Type := Launch × va_G × (ClassId × ClassId × ClassId) × (Nat → Nat)
abbrev MM : Type := MethodName × ByteArray × Nat × Option FieldType × List (Nat × Instr × Nat)
def gT (G : GG) : List (ClassId × FieldType) := [(G.2.2.1.1, .int), (G.2.2.1.2.1, .boolean), (G.2.2.1.2.2, .object RX9)]
/-! ===== the words of the tables, at any later state ===== -/
def okw : Cond → Bool
  | .fieldLinkNest .. => true
  | .methodLinkNest .. => true
  | .arrayOver (.object _) => true
  | w => goodWord w
def TabOk (U : State) : Prop := ∀ w ∈ lw_tbl, okw w = true → w.before #[] U = true
theorem TabOk.moved {s U : State} (hW : s.WarmedH U.vm) (h : TabOk s) : TabOk U := by
  intro w hm ho
  have hb := h w hm ho
  cases w with
  | fieldLinkNest a i b n d h => exact va_Nw.warmF hW hb
  | methodLinkNest a i x h => exact va_Nw.warmM hW hb
  | arrayOver ty =>
    cases ty with
    | object C => exact va_AO.moved hW.alike hb
    | _ => cases ho
  | _ => exact word_at hW (good_of_word ho) hb
theorem TabOk.use {s : State} (h : TabOk s) {w : Cond} (hm : w ∈ lw_tbl) (ho : okw w = true) (ht : w.onTables = true) {args : Array Value} : w.before args s = true := va_tabs ht rfl (h w hm ho)
theorem TabOk.calling {U : State} (h : TabOk U) (g : JFrame) (mk : MethodId) (a : Array Value) : TabOk (U.calling g mk a) := TabOk.moved (s := U) (State.WarmedH.refl U) h
/-! ===== locals: a list of what the slots hold ===== -/
def lvl : Nat → List (Option Value) → List (Nat × Value)
  | _, [] => []
  | i, none :: t => lvl (i + 1) t
  | i, some v :: t => (i, v) :: lvl (i + 1) t
theorem lvl_mem : ∀ (L : List (Option Value)) (k : Nat) (q : Nat × Value), q ∈ lvl k L ↔ ∃ j : Nat, q.1 = k + j ∧ L[j]? = some (some q.2)
  | [], k, q => by simp [lvl]
  | none :: t, k, q => by
    rw [lvl, lvl_mem t (k + 1) q]
    constructor
    · rintro ⟨j, h1, h2⟩; exact ⟨j + 1, by omega, by simpa using h2⟩
    · rintro ⟨j, h1, h2⟩
      cases j with
      | zero => simp at h2
      | succ j => exact ⟨j, by omega, by simpa using h2⟩
  | some v :: t, k, q => by
    rw [lvl, List.mem_cons, lvl_mem t (k + 1) q]
    constructor
    · rintro (h | ⟨j, h1, h2⟩)
      · exact ⟨0, by rw [h]; rfl, by rw [h]; rfl⟩
      · exact ⟨j + 1, by omega, by simpa using h2⟩
    · rintro ⟨j, h1, h2⟩
      cases j with
      | zero =>
        left
        have h3 : v = q.2 := by simpa using h2
        exact Prod.ext (by simpa using h1) h3.symm
      | succ j => exact Or.inr ⟨j, by omega, by simpa using h2⟩
def lvh (ls : Array Slot) (nL : Nat) (L : List (Option Value)) : Prop := lv_has ls nL (lvl 0 L)
theorem lvh.at {ls : Array Slot} {nL : Nat} {L : List (Option Value)} (h : lvh ls nL L) {i : Nat} {v : Value} (hi : L[i]? = some (some v)) : ls[i]? = some (.val v) :=
  h.2.2 (i, v) ((lvl_mem L 0 (i, v)).mpr ⟨i, by simp, hi⟩)
theorem lvh.of {ls : Array Slot} {nL : Nat} {l : List (Nat × Value)} {L : List (Option Value)} (h : lv_has ls nL l) (hm : ∀ (i : Nat) (v : Value), L[i]? = some (some v) → (i, v) ∈ l) : lvh ls nL L :=
  ⟨h.1, h.2.1, fun q hq => by
    obtain ⟨j, h1, h2⟩ := (lvl_mem L 0 q).mp hq
    have hj : q.1 = j := by omega
    exact h.2.2 q (by have := hm j q.2 h2; rwa [← hj] at this)⟩
/-- fewer of them -/
def lvle : List (Option Value) → List (Option Value) → Prop
  | _, [] => True
  | [], b :: bs => b = none ∧ lvle [] bs
  | a :: as, b :: bs => (b = none ∨ b = a) ∧ lvle as bs
theorem lvle_at : ∀ (L K : List (Option Value)), lvle L K → ∀ (i : Nat) (v : Value), K[i]? = some (some v) → L[i]? = some (some v)
  | _, [], _, i, v, h => by simp at h
  | [], b :: bs, hl, i, v, h => by
    cases i with
    | zero => simp at h; rw [hl.1] at h; cases h
    | succ i => simpa using lvle_at [] bs hl.2 i v (by simpa using h)
  | a :: as, b :: bs, hl, i, v, h => by
    cases i with
    | zero =>
      simp at h
      rcases hl.1 with h1 | h1
      · rw [h1] at h; cases h
      · simp [← h1, h]
    | succ i => simpa using lvle_at as bs hl.2 i v (by simpa using h)
theorem lvh.le {ls : Array Slot} {nL : Nat} {L K : List (Option Value)} (h : lvh ls nL L) (hl : lvle L K) : lvh ls nL K :=
  lvh.of h (fun i v hi => (lvl_mem L 0 (i, v)).mpr ⟨i, by simp, lvle_at L K hl i v hi⟩)
def catok (L : List (Option Value)) : Nat → Bool
  | 0 => true
  | j + 1 => match L[j]? with
    | some (some v) => v.category == 1
    | _ => true
theorem lvl_store1 {L : List (Option Value)} {i : Nat} {v : Value} (hc : catok L i = true) : ∀ (j : Nat) (w : Value), (L.set i (some v))[j]? = some (some w) → (j, w) ∈ ((i, v) :: (lvl 0 L).filter (fun q => !(q.1 == i) && !(q.1 + 1 == i && q.2.category == 2))) := by
  intro j w h
  by_cases hj : j = i
  · subst hj
    by_cases hl : j < L.length
    · rw [List.getElem?_set_self hl] at h
      have : v = w := by simpa using h
      rw [this]; exact List.mem_cons_self
    · rw [List.getElem?_eq_none (by simpa using Nat.not_lt.mp hl)] at h; cases h
  · rw [List.getElem?_set_ne (Ne.symm hj)] at h
    refine List.mem_cons_of_mem _ (List.mem_filter.mpr ⟨(lvl_mem L 0 (j, w)).mpr ⟨j, by simp, h⟩, ?_⟩)
    by_cases h1 : j + 1 = i
    · subst h1
      simp only [catok, h] at hc
      have h2 : w.category = 1 := by simpa using hc
      simp [h2]
    · simp [hj, h1]
theorem lvl_store2 {L : List (Option Value)} {i : Nat} {v : Value} (hc : catok L i = true) : ∀ (j : Nat) (w : Value), ((L.set i (some v)).set (i + 1) none)[j]? = some (some w) → (j, w) ∈ ((i, v) :: (lvl 0 L).filter (fun q => !(q.1 == i) && (!(q.1 == i + 1) && !(q.1 + 1 == i && q.2.category == 2)))) := by
  intro j w h
  by_cases hj1 : j = i + 1
  · subst hj1
    by_cases hl : i + 1 < (L.set i (some v)).length
    · rw [List.getElem?_set_self hl] at h; cases h
    · rw [List.getElem?_eq_none (by simpa using Nat.not_lt.mp hl)] at h; cases h
  · rw [List.getElem?_set_ne (Ne.symm hj1)] at h
    by_cases hj : j = i
    · subst hj
      by_cases hl : j < L.length
      · rw [List.getElem?_set_self hl] at h
        have : v = w := by simpa using h
        rw [this]; exact List.mem_cons_self
      · rw [List.getElem?_eq_none (by simpa using Nat.not_lt.mp hl)] at h; cases h
    · rw [List.getElem?_set_ne (Ne.symm hj)] at h
      refine List.mem_cons_of_mem _ (List.mem_filter.mpr ⟨(lvl_mem L 0 (j, w)).mpr ⟨j, by simp, h⟩, ?_⟩)
      by_cases h1 : j + 1 = i
      · subst h1
        simp only [catok, h] at hc
        have h2 : w.category = 1 := by simpa using hc
        simp [h2]
        omega
      · simp [hj, hj1, h1]
def entA : List Value → List (Option Value)
  | [] => []
  | v :: t => if v.category = 2 then some v :: none :: entA t else some v :: entA t
def entL (n : Nat) (av : List Value) : List (Option Value) := entA av ++ List.replicate (n - (entA av).length) none
theorem entA_mem : ∀ (av : List Value) (k i : Nat) (v : Value), (entA av)[i]? = some (some v) → (k + i, v) ∈ lv_args k av
  | [], k, i, v, h => by simp [entA] at h
  | w :: t, k, i, v, h => by
    by_cases hc : w.category = 2
    · rw [entA, if_pos hc] at h
      rw [lv_args, if_pos hc]
      match i, h with
      | 0, h =>
        have : w = v := by simpa using h
        rw [this]; exact List.mem_cons_self
      | 1, h => simp at h
      | i + 2, h =>
        have := entA_mem t (k + 2) i v (by simpa using h)
        rw [show k + (i + 2) = k + 2 + i by omega]
        exact List.mem_cons_of_mem _ this
    · rw [entA, if_neg hc] at h
      rw [lv_args, if_neg hc]
      match i, h with
      | 0, h =>
        have : w = v := by simpa using h
        rw [this]; exact List.mem_cons_self
      | i + 1, h =>
        have := entA_mem t (k + 1) i v (by simpa using h)
        rw [show k + (i + 1) = k + 1 + i by omega]
        exact List.mem_cons_of_mem _ this
theorem entL_mem {n : Nat} {av : List Value} {i : Nat} {v : Value} (h : (entL n av)[i]? = some (some v)) : (i, v) ∈ lv_args 0 av := by
  unfold entL at h
  by_cases hl : i < (entA av).length
  · rw [List.getElem?_append_left hl] at h
    simpa using entA_mem av 0 i v h
  · rw [List.getElem?_append_right (Nat.not_lt.mp hl)] at h
    have := List.mem_of_getElem? h
    simp at this
/-! ===== the judgement ===== -/
abbrev XX : Type := State → Array Value → (Nat → Prop) → Prop
abbrev FF : Type := List Frame → Array Value → State → (Nat → Prop) → State → Prop
def XT : XX := fun _ _ _ => True
def CX (G : GG) (d mc ms : Nat) (M : MM) (X : XX) (p : Program) (R : Room) (s : State) (m : MethodId) (args : Array Value) (meth : Method) (c : Code) (A : Nat → Prop) : Prop :=
  (p.tables.exec = Jvm.exec ∧ c.code = M.2.1 ∧ meth.sig.returnType = M.2.2.2.1 ∧ c.maxLocals = M.2.2.1 ∧ s.vm.findClass M.1.cls = some m.cls) ∧ (meth.locks = false ∧ meth.name = M.1.name ∧ TabOk s ∧ va_K G.2.1 classes (gT G) s ∧ ∀ q, s.heap.size ≤ q → A q) ∧ (d ≤ R.frames ∧ 40 * d ≤ R.locals ∧ R.cells = mc ∧ R.slots = ms) ∧ (∀ q ∈ M.2.2.2.2, decode M.2.1 q.1 = .ok q.2) ∧ X s args A
def AW (G : GG) (d mc ms : Nat) (M : MM) (X : XX) (F : FF) (k n pc : Nat) (L : List (Option Value)) (st : List Value) (ws : va_W) : Prop :=
  ∀ (p : Program) (e : Env) (R : Room) (s : State) (m : MethodId) (args : Array Value) (below : List Frame) (meth : Method) (c : Code) (H : Heap) (locs : List Loc) (A : Nat → Prop) (ls : Array Slot),
    CX G d mc ms M X p R s m args meth c A → va_P G.2.1 classes ws H → va_D A ws → va_S A s.heap H locs → lvh ls M.2.2.1 L → W p G.1 e R s m args below meth c H locs k n (F below args s A) (F0 m pc ls st)
def AQA (G : GG) (A : Nat → Prop) (Q : Option Value → va_W → Prop) : Array Value → State → Outcome → State → Prop := fun _ st oc t =>
  (∃ (r : Option Value) (ws : va_W), oc = .returned r ∧ Q r ws ∧ va_P G.2.1 classes ws t.heap ∧ va_D A ws) ∧ va_F A st t
def mF (G : GG) (mc ms : Nat) (Q : Option Value → va_W → Prop) : FF := fun below args s A => MQ below (AQA G A Q) args s mc ms A
def rmD (d mc ms : Nat) : Room := { frames := d, cells := mc, slots := ms, locals := 40 * d }
def AP (G : GG) (av : List Value) (ws : va_W) (sz : Nat) : Array Value → State → Prop := va_Pc av (fun U => U.heap.size = sz ∧ TabOk U ∧ va_P G.2.1 classes ws U.heap ∧ va_K G.2.1 classes (gT G) U ∧ va_D (fun _ => True) ws)
def AM (G : GG) (d mc ms : Nat) (M : MM) (av : List Value) (ws : va_W) (Q : Option Value → va_W → Prop) : Prop :=
  ∀ d' : Nat, d ≤ d' → ∀ sz : Nat, Met G.1 M.1 [.code M.1 M.2.1 M.2.2.1 M.2.2.2.1] (rmD d' mc ms) (AP G av ws sz) (AQA G (va_A ws sz) Q) mc ms (va_A ws sz)
theorem AP.blind (G : GG) (av : List Value) (ws : va_W) (sz : Nat) : FrameBlind (AP G av ws sz) := by
  intro a U g mk h
  obtain ⟨h1, h2, h3, h4, h5, h6⟩ := h
  exact ⟨h1, h2, h3.calling g mk a, h4, va_K.moved (u := U) (U := U.calling g mk a) (Vm.Alike.refl U.vm) h5, h6⟩
theorem AM.mono {G : GG} {d d2 mc ms : Nat} {M : MM} {av : List Value} {ws : va_W} {Q : Option Value → va_W → Prop} (h : AM G d mc ms M av ws Q) (hd : d ≤ d2) : AM G d2 mc ms M av ws Q := fun d' h1 sz => h d' (Nat.le_trans hd h1) sz
theorem AM.ofAW {G : GG} {d mc ms : Nat} {M : MM} {av : List Value} {ws : va_W} {Q : Option Value → va_W → Prop} (L : List (Option Value)) (hL : entL M.2.2.1 av = L) (hn : (lg_sl av).length ≤ M.2.2.1) (hy : plainName M.1.cls = true ∨ plainFor M.1 = true) (hdec : ∀ q ∈ M.2.2.2.2, decode M.2.1 q.1 = .ok q.2)
    (h : AW G d mc ms M XT (mF G mc ms Q) 0 0 0 L [] ws) : AM G d mc ms M av ws Q := by
  subst hL
  intro d' hd sz
  have body : ∀ p e s m args below meth c s₁, BodyLoose p G.1 M.1 (headSpec [.code M.1 M.2.1 M.2.2.1 M.2.2.2.1] (rmD d' mc ms)) M.2.1 M.2.2.1 M.2.2.2.1 e s m args below meth c s₁ → c.maxLocals = M.2.2.1 → AP G av ws sz args s →
      W p G.1 e (headSpec [.code M.1 M.2.1 M.2.2.1 M.2.2.2.1] (rmD d' mc ms)).room s m args below meth c s.heap [] 0 0 (MQ below (AQA G (va_A ws sz) Q) args s mc ms (va_A ws sz)) (entryFrame m args M.2.2.1) := by
    intro p e s m args below meth c s₁ B hml hv
    obtain ⟨rfl, hsz, hT, hP, hK, hD0⟩ := hv
    subst hsz
    have hD := hD0.self (sz := s.heap.size)
    have hl := lv_entry av (n := M.2.2.1) hn
    rw [lg_entry_eq]
    refine h p e _ s m _ below meth c s.heap [] (va_A ws s.heap.size) _ ⟨⟨B.exec, B.bytes, B.returns, hml, findClass_of_methodNamed B.named⟩, ⟨B.notSynchronized, (name_of_methodNamed B.named B.method).1, hT, hK, fun q hq => Or.inr hq⟩, ⟨hd, Nat.mul_le_mul_left 40 hd, rfl, rfl⟩, hdec, trivial⟩ hP hD va_S.rf ?_
    exact lvh.of hl (fun i v hi => entL_mem hi)
  rcases hy with hy | hy
  · exact Met.ofW (cc := M.2.1) (maxL := M.2.2.1) (ret := M.2.2.2.1) hy rfl body
  · exact va_MetF (cc := M.2.1) (maxL := M.2.2.1) (ret := M.2.2.2.1) hy rfl body
section AWR
variable {G : GG} {d mc ms : Nat} {M : MM} {X : XX} {F : FF} {k n pc pc' i : Nat} {L : List (Option Value)} {st : List Value} {ws : va_W}
theorem CX.dec {p : Program} {R : Room} {s : State} {m : MethodId} {args : Array Value} {meth : Method} {c : Code} {A : Nat → Prop} (h : CX G d mc ms M X p R s m args meth c A) {I : Instr} {len : Nat} (hi : M.2.2.2.2[i]? = some (pc, I, len)) : decode M.2.1 pc = .ok (I, len) :=
  h.2.2.2.1 (pc, I, len) (List.mem_of_getElem? hi)
/-- one instruction that reads and writes the stack alone -/
theorem AW.one {I : Instr} {len : Nat} {st' : List Value} (hi : M.2.2.2.2[i]? = some (pc, I, len))
    (h : ∀ (p : Program) (e : Env) (R : Room) (s : State) (m : MethodId) (args : Array Value) (below : List Frame) (meth : Method) (c : Code) (H : Heap) (locs : List Loc) (A : Nat → Prop) (ls : Array Slot), p.tables.exec = Jvm.exec → c.code = M.2.1 → decode M.2.1 pc = .ok (I, len) → CX G d mc ms M X p R s m args meth c A → lvh ls M.2.2.1 L → W p G.1 e R s m args below meth c H locs k n (F below args s A) (F0 m pc' ls st') → W p G.1 e R s m args below meth c H locs k n (F below args s A) (F0 m pc ls st))
    (kk : AW G d mc ms M X F k n pc' L st' ws) : AW G d mc ms M X F k n pc L st ws :=
  fun p e R s m args below meth c H locs A ls hc hP hD hS hl => h p e R s m args below meth c H locs A ls hc.1.1 hc.1.2.1 (hc.dec hi) hc hl (kk p e R s m args below meth c H locs A ls hc hP hD hS hl)
theorem AW.le {K : List (Option Value)} (hl : lvle L K) (kk : AW G d mc ms M X F k n pc K st ws) : AW G d mc ms M X F k n pc L st ws :=
  fun p e R s m args below meth c H locs A ls hc hP hD hS h => kk p e R s m args below meth c H locs A ls hc hP hD hS (h.le hl)
end AWR
end
section
section AWS
variable {G : GG} {d mc ms : Nat} {M : MM} {X : XX} {F : FF} {k n pc pc' i : Nat} {L : List (Option Value)} {st : List Value} {ws : va_W}
/-- what is on a stack behind a call -/
def psh : Option Value → List Value → List Value
  | none, r => r
  | some v, r => v :: r
theorem psh_eq (r : Option Value) (st : List Value) : r.toList ++ st = psh r st := by cases r <;> rfl

theorem x_iadd {a b : Int} (hi : M.2.2.2.2[i]? = some (pc, .iadd, 1)) (hp : pc + 1 = pc')
    (kk : AW G d mc ms M X F k n pc' L (.int (J (a + b)) :: st) ws) : AW G d mc ms M X F k n pc L (.int (J b) :: .int (J a) :: st) ws := by
  subst hp
  exact AW.one hi (fun p e R s m args below meth c H locs A ls hx hb hd hc hl h => lv_iadd hx hb hd (by rw [J_add]; exact h)) kk

theorem x_isub {a b : Int} (hi : M.2.2.2.2[i]? = some (pc, .isub, 1)) (hp : pc + 1 = pc')
    (kk : AW G d mc ms M X F k n pc' L (.int (J (a - b)) :: st) ws) : AW G d mc ms M X F k n pc L (.int (J b) :: .int (J a) :: st) ws := by
  subst hp
  exact AW.one hi (fun p e R s m args below meth c H locs A ls hx hb hd hc hl h => lv_isub hx hb hd (by rw [J_sub]; exact h)) kk

theorem x_imul {a b : Int} (hi : M.2.2.2.2[i]? = some (pc, .imul, 1)) (hp : pc + 1 = pc')
    (kk : AW G d mc ms M X F k n pc' L (.int (J (a * b)) :: st) ws) : AW G d mc ms M X F k n pc L (.int (J b) :: .int (J a) :: st) ws := by
  subst hp
  exact AW.one hi (fun p e R s m args below meth c H locs A ls hx hb hd hc hl h => lv_imul hx hb hd (by rw [J_mul]; exact h)) kk

theorem x_idiv {a b : Int} (hi : M.2.2.2.2[i]? = some (pc, .idiv, 1)) (hp : pc + 1 = pc') (ha : rg a) (hb0 : rg b) (h0 : 0 ≤ a) (h1 : 0 < b)
    (kk : AW G d mc ms M X F k n pc' L (.int (J (a / b)) :: st) ws) : AW G d mc ms M X F k n pc L (.int (J b) :: .int (J a) :: st) ws := by
  subst hp
  exact AW.one hi (fun p e R s m args below meth c H locs A ls hx hb hd hc hl h => lv_idiv hx hb hd (J_ne0 hb0 (by omega)) (by rw [J_div ha hb0 h0 h1]; exact h)) kk

theorem x_irem {a b : Int} (hi : M.2.2.2.2[i]? = some (pc, .irem, 1)) (hp : pc + 1 = pc') (ha : rg a) (hb0 : rg b) (h0 : 0 ≤ a) (h1 : 0 < b)
    (kk : AW G d mc ms M X F k n pc' L (.int (J (a % b)) :: st) ws) : AW G d mc ms M X F k n pc L (.int (J b) :: .int (J a) :: st) ws := by
  subst hp
  exact AW.one hi (fun p e R s m args below meth c H locs A ls hx hb hd hc hl h => lv_irem hx hb hd (J_ne0 hb0 (by omega)) (by rw [J_rem ha hb0 h0 h1]; exact h)) kk

theorem x_iand {a b : Int} (hi : M.2.2.2.2[i]? = some (pc, .iand, 1)) (hp : pc + 1 = pc') (ha : 0 ≤ a) (hb0 : 0 ≤ b)
    (kk : AW G d mc ms M X F k n pc' L (.int (J (ia a b)) :: st) ws) : AW G d mc ms M X F k n pc L (.int (J b) :: .int (J a) :: st) ws := by
  subst hp
  exact AW.one hi (fun p e R s m args below meth c H locs A ls hx hb hd hc hl h => lv_iand hx hb hd (by rw [J_and ha hb0]; exact h)) kk

theorem x_ior {a b : Int} (hi : M.2.2.2.2[i]? = some (pc, .ior, 1)) (hp : pc + 1 = pc') (ha : 0 ≤ a) (hb0 : 0 ≤ b)
    (kk : AW G d mc ms M X F k n pc' L (.int (J (io a b)) :: st) ws) : AW G d mc ms M X F k n pc L (.int (J b) :: .int (J a) :: st) ws := by
  subst hp
  exact AW.one hi (fun p e R s m args below meth c H locs A ls hx hb hd hc hl h => lv_ior hx hb hd (by rw [J_or ha hb0]; exact h)) kk

theorem x_ixor {a b : Int} (hi : M.2.2.2.2[i]? = some (pc, .ixor, 1)) (hp : pc + 1 = pc') (ha : 0 ≤ a) (hb0 : 0 ≤ b)
    (kk : AW G d mc ms M X F k n pc' L (.int (J (ix a b)) :: st) ws) : AW G d mc ms M X F k n pc L (.int (J b) :: .int (J a) :: st) ws := by
  subst hp
  exact AW.one hi (fun p e R s m args below meth c H locs A ls hx hb hd hc hl h => lv_ixor hx hb hd (by rw [J_xor ha hb0]; exact h)) kk

theorem x_ishl {a b : Int} (hi : M.2.2.2.2[i]? = some (pc, .ishl, 1)) (hp : pc + 1 = pc') (ha : 0 ≤ a) (hb0 : 0 ≤ b ∧ b < 32)
    (kk : AW G d mc ms M X F k n pc' L (.int (J (a * 2 ^ b.toNat)) :: st) ws) : AW G d mc ms M X F k n pc L (.int (J b) :: .int (J a) :: st) ws := by
  subst hp
  exact AW.one hi (fun p e R s m args below meth c H locs A ls hx hb hd hc hl h => lv_ishl hx hb hd (by rw [J_shl ha hb0]; exact h)) kk

theorem x_ishr {a b : Int} (hi : M.2.2.2.2[i]? = some (pc, .ishr, 1)) (hp : pc + 1 = pc') (ha : 0 ≤ a ∧ a < 2147483648) (hb0 : 0 ≤ b ∧ b < 32)
    (kk : AW G d mc ms M X F k n pc' L (.int (J (a / 2 ^ b.toNat)) :: st) ws) : AW G d mc ms M X F k n pc L (.int (J b) :: .int (J a) :: st) ws := by
  subst hp
  exact AW.one hi (fun p e R s m args below meth c H locs A ls hx hb hd hc hl h => lv_ishr hx hb hd (by rw [J_shr ha hb0]; exact h)) kk

theorem x_ladd {a b : Int} (hi : M.2.2.2.2[i]? = some (pc, .ladd, 1)) (hp : pc + 1 = pc')
    (kk : AW G d mc ms M X F k n pc' L (.long (JL (a + b)) :: st) ws) : AW G d mc ms M X F k n pc L (.long (JL b) :: .long (JL a) :: st) ws := by
  subst hp
  exact AW.one hi (fun p e R s m args below meth c H locs A ls hx hb hd hc hl h => lv_ladd hx hb hd (by rw [JL_add]; exact h)) kk

theorem x_lmul {a b : Int} (hi : M.2.2.2.2[i]? = some (pc, .lmul, 1)) (hp : pc + 1 = pc')
    (kk : AW G d mc ms M X F k n pc' L (.long (JL (a * b)) :: st) ws) : AW G d mc ms M X F k n pc L (.long (JL b) :: .long (JL a) :: st) ws := by
  subst hp
  exact AW.one hi (fun p e R s m args below meth c H locs A ls hx hb hd hc hl h => lv_lmul hx hb hd (by rw [JL_mul]; exact h)) kk

theorem x_ldiv {a b : Int} (hi : M.2.2.2.2[i]? = some (pc, .ldiv, 1)) (hp : pc + 1 = pc') (ha : rl a) (hb0 : rl b) (h0 : 0 ≤ a) (h1 : 0 < b)
    (kk : AW G d mc ms M X F k n pc' L (.long (JL (a / b)) :: st) ws) : AW G d mc ms M X F k n pc L (.long (JL b) :: .long (JL a) :: st) ws := by
  subst hp
  exact AW.one hi (fun p e R s m args below meth c H locs A ls hx hb hd hc hl h => lv_ldiv hx hb hd (JL_ne0 hb0 (by omega)) (by rw [JL_div ha hb0 h0 h1]; exact h)) kk

theorem x_lrem {a b : Int} (hi : M.2.2.2.2[i]? = some (pc, .lrem, 1)) (hp : pc + 1 = pc') (ha : rl a) (hb0 : rl b) (h0 : 0 ≤ a) (h1 : 0 < b)
    (kk : AW G d mc ms M X F k n pc' L (.long (JL (a % b)) :: st) ws) : AW G d mc ms M X F k n pc L (.long (JL b) :: .long (JL a) :: st) ws := by
  subst hp
  exact AW.one hi (fun p e R s m args below meth c H locs A ls hx hb hd hc hl h => lv_lrem hx hb hd (JL_ne0 hb0 (by omega)) (by rw [JL_rem ha hb0 h0 h1]; exact h)) kk

theorem x_lcmp {a b : Int} (hi : M.2.2.2.2[i]? = some (pc, .lcmp, 1)) (hp : pc + 1 = pc') (ha : rl a) (hb0 : rl b)
    (kk : AW G d mc ms M X F k n pc' L (.int (J (if b < a then 1 else if a = b then 0 else -1)) :: st) ws) : AW G d mc ms M X F k n pc L (.long (JL b) :: .long (JL a) :: st) ws := by
  subst hp
  exact AW.one hi (fun p e R s m args below meth c H locs A ls hx hb hd hc hl h => W.lcmp hx hb hd (by rw [lg_J ha hb0]; exact h)) kk

theorem x_i2l {a : Int} (hi : M.2.2.2.2[i]? = some (pc, .i2l, 1)) (hp : pc + 1 = pc') (ha : rg a)
    (kk : AW G d mc ms M X F k n pc' L (.long (JL a) :: st) ws) : AW G d mc ms M X F k n pc L (.int (J a) :: st) ws := by
  subst hp
  exact AW.one hi (fun p e R s m args below meth c H locs A ls hx hb hd hc hl h => lv_i2l hx hb hd (J_l ha) h) kk

theorem x_l2i {a : Int} (hi : M.2.2.2.2[i]? = some (pc, .l2i, 1)) (hp : pc + 1 = pc')
    (kk : AW G d mc ms M X F k n pc' L (.int (J a) :: st) ws) : AW G d mc ms M X F k n pc L (.long (JL a) :: st) ws := by
  subst hp
  exact AW.one hi (fun p e R s m args below meth c H locs A ls hx hb hd hc hl h => lv_l2i hx hb hd (JL_i a) h) kk

theorem x_iconst {a : Int} (hi : M.2.2.2.2[i]? = some (pc, .iconst a, 1)) (hp : pc + 1 = pc')
    (kk : AW G d mc ms M X F k n pc' L (.int (J a) :: st) ws) : AW G d mc ms M X F k n pc L (st) ws := by
  subst hp
  exact AW.one hi (fun p e R s m args below meth c H locs A ls hx hb hd hc hl h => lv_iconst hx hb hd rfl h) kk

theorem x_bipush {a : Int} (hi : M.2.2.2.2[i]? = some (pc, .bipush a, 2)) (hp : pc + 2 = pc') (hv : (Int8.ofInt a).toInt32 = J a)
    (kk : AW G d mc ms M X F k n pc' L (.int (J a) :: st) ws) : AW G d mc ms M X F k n pc L (st) ws := by
  subst hp
  exact AW.one hi (fun p e R s m args below meth c H locs A ls hx hb hd hc hl h => lv_bipush hx hb hd hv h) kk

theorem x_sipush {a : Int} (hi : M.2.2.2.2[i]? = some (pc, .sipush a, 3)) (hp : pc + 3 = pc') (hv : (Int16.ofInt a).toInt32 = J a)
    (kk : AW G d mc ms M X F k n pc' L (.int (J a) :: st) ws) : AW G d mc ms M X F k n pc L (st) ws := by
  subst hp
  exact AW.one hi (fun p e R s m args below meth c H locs A ls hx hb hd hc hl h => lv_sipush hx hb hd hv h) kk

theorem x_lconst {f : Fin 2} {a : Int} (hi : M.2.2.2.2[i]? = some (pc, .lconst f, 1)) (hp : pc + 1 = pc') (hv : Int64.ofNat (f : Nat) = JL a)
    (kk : AW G d mc ms M X F k n pc' L (.long (JL a) :: st) ws) : AW G d mc ms M X F k n pc L (st) ws := by
  subst hp
  exact AW.one hi (fun p e R s m args below meth c H locs A ls hx hb hd hc hl h => lv_lconst hx hb hd hv h) kk

theorem x_ldc {idx : Nat} {a : Int} (hi : M.2.2.2.2[i]? = some (pc, .ldc idx, 2)) (hp : pc + 2 = pc') (hw : Cond.constant M.1.cls idx (J a) ∈ lw_tbl)
    (kk : AW G d mc ms M X F k n pc' L (.int (J a) :: st) ws) : AW G d mc ms M X F k n pc L (st) ws := by
  subst hp
  exact AW.one hi (fun p e R s m args below meth c H locs A ls hx hb hd hc hl h => lv_ldc hx hb hc.1.2.2.2.2 (hc.2.1.2.2.1.use hw rfl rfl) hd h) kk

theorem x_ldc2 {idx : Nat} {a : Int} (hi : M.2.2.2.2[i]? = some (pc, .ldc2_w idx, 3)) (hp : pc + 3 = pc') (hw : Cond.constantLong M.1.cls idx (JL a) ∈ lw_tbl)
    (kk : AW G d mc ms M X F k n pc' L (.long (JL a) :: st) ws) : AW G d mc ms M X F k n pc L (st) ws := by
  subst hp
  exact AW.one hi (fun p e R s m args below meth c H locs A ls hx hb hd hc hl h => lv_ldc2 hx hb hc.1.2.2.2.2 (hc.2.1.2.2.1.use hw rfl rfl) hd h) kk

theorem x_dup {v : Value} (hi : M.2.2.2.2[i]? = some (pc, .dup, 1)) (hp : pc + 1 = pc') (hv : v.category = 1)
    (kk : AW G d mc ms M X F k n pc' L (v :: v :: st) ws) : AW G d mc ms M X F k n pc L (v :: st) ws := by
  subst hp
  exact AW.one hi (fun p e R s m args below meth c H locs A ls hx hb hd hc hl h => lv_dup hx hb hd hv h) kk

theorem x_dup2 {v u : Value} (hi : M.2.2.2.2[i]? = some (pc, .dup2, 1)) (hp : pc + 1 = pc') (hv : v.category = 1) (hu : u.category = 1)
    (kk : AW G d mc ms M X F k n pc' L (v :: u :: v :: u :: st) ws) : AW G d mc ms M X F k n pc L (v :: u :: st) ws := by
  subst hp
  exact AW.one hi (fun p e R s m args below meth c H locs A ls hx hb hd hc hl h => lv_dup2_11 hx hb hd hv hu h) kk

theorem x_pop {v : Value} (hi : M.2.2.2.2[i]? = some (pc, .pop, 1)) (hp : pc + 1 = pc') (hv : v.category = 1)
    (kk : AW G d mc ms M X F k n pc' L (st) ws) : AW G d mc ms M X F k n pc L (v :: st) ws := by
  subst hp
  exact AW.one hi (fun p e R s m args below meth c H locs A ls hx hb hd hc hl h => lv_pop hx hb hd hv h) kk

theorem x_iload_n {f : Fin 4} {j : Nat} {x : Int32} (hi : M.2.2.2.2[i]? = some (pc, .iload_n f, 1)) (hp : pc + 1 = pc') (hj : (f : Nat) = j) (hl0 : L[j]? = some (some (.int x)))
    (kk : AW G d mc ms M X F k n pc' L (.int x :: st) ws) : AW G d mc ms M X F k n pc L (st) ws := by
  subst hp
  exact AW.one hi (fun p e R s m args below meth c H locs A ls hx hb hd hc hl h => lv_iload_n hx hb hd hj (hl.at hl0) h) kk

theorem x_iload {j : Nat} {x : Int32} (hi : M.2.2.2.2[i]? = some (pc, .iload j, 2)) (hp : pc + 2 = pc') (hl0 : L[j]? = some (some (.int x)))
    (kk : AW G d mc ms M X F k n pc' L (.int x :: st) ws) : AW G d mc ms M X F k n pc L (st) ws := by
  subst hp
  exact AW.one hi (fun p e R s m args below meth c H locs A ls hx hb hd hc hl h => lv_iload hx hb hd (hl.at hl0) h) kk

theorem x_lload_n {f : Fin 4} {j : Nat} {x : Int64} (hi : M.2.2.2.2[i]? = some (pc, .lload_n f, 1)) (hp : pc + 1 = pc') (hj : (f : Nat) = j) (hl0 : L[j]? = some (some (.long x)))
    (kk : AW G d mc ms M X F k n pc' L (.long x :: st) ws) : AW G d mc ms M X F k n pc L (st) ws := by
  subst hp
  exact AW.one hi (fun p e R s m args below meth c H locs A ls hx hb hd hc hl h => lv_lload_n hx hb hd hj (hl.at hl0) h) kk

theorem x_lload {j : Nat} {x : Int64} (hi : M.2.2.2.2[i]? = some (pc, .lload j, 2)) (hp : pc + 2 = pc') (hl0 : L[j]? = some (some (.long x)))
    (kk : AW G d mc ms M X F k n pc' L (.long x :: st) ws) : AW G d mc ms M X F k n pc L (st) ws := by
  subst hp
  exact AW.one hi (fun p e R s m args below meth c H locs A ls hx hb hd hc hl h => lv_lload hx hb hd (hl.at hl0) h) kk

theorem x_aload_n {f : Fin 4} {j : Nat} {x : Nat} (hi : M.2.2.2.2[i]? = some (pc, .aload_n f, 1)) (hp : pc + 1 = pc') (hj : (f : Nat) = j) (hl0 : L[j]? = some (some (.ref x)))
    (kk : AW G d mc ms M X F k n pc' L (.ref x :: st) ws) : AW G d mc ms M X F k n pc L (st) ws := by
  subst hp
  exact AW.one hi (fun p e R s m args below meth c H locs A ls hx hb hd hc hl h => lv_aload_n hx hb hd hj (hl.at hl0) h) kk

theorem x_aload {j : Nat} {x : Nat} (hi : M.2.2.2.2[i]? = some (pc, .aload j, 2)) (hp : pc + 2 = pc') (hl0 : L[j]? = some (some (.ref x)))
    (kk : AW G d mc ms M X F k n pc' L (.ref x :: st) ws) : AW G d mc ms M X F k n pc L (st) ws := by
  subst hp
  exact AW.one hi (fun p e R s m args below meth c H locs A ls hx hb hd hc hl h => lv_aload hx hb hd (hl.at hl0) h) kk

theorem x_ineg {a : Int} (hi : M.2.2.2.2[i]? = some (pc, .ineg, 1)) (hp : pc + 1 = pc')
    (kk : AW G d mc ms M X F k n pc' L (.int (J (-a)) :: st) ws) : AW G d mc ms M X F k n pc L (.int (J a) :: st) ws := by
  subst hp
  exact AW.one hi (fun p e R s m args below meth c H locs A ls hx hb hd hc hl h => lv_ineg hx hb hd (by rw [J_neg]; exact h)) kk

theorem x_riadd {x y : Int32} (hi : M.2.2.2.2[i]? = some (pc, .iadd, 1)) (hp : pc + 1 = pc')
    (kk : AW G d mc ms M X F k n pc' L (.int (x + y) :: st) ws) : AW G d mc ms M X F k n pc L (.int y :: .int x :: st) ws := by
  subst hp
  exact AW.one hi (fun p e R s m args below meth c H locs A ls hx hb hd hc hl h => lv_iadd hx hb hd h) kk

theorem x_risub {x y : Int32} (hi : M.2.2.2.2[i]? = some (pc, .isub, 1)) (hp : pc + 1 = pc')
    (kk : AW G d mc ms M X F k n pc' L (.int (x - y) :: st) ws) : AW G d mc ms M X F k n pc L (.int y :: .int x :: st) ws := by
  subst hp
  exact AW.one hi (fun p e R s m args below meth c H locs A ls hx hb hd hc hl h => lv_isub hx hb hd h) kk

theorem x_riand {x y : Int32} (hi : M.2.2.2.2[i]? = some (pc, .iand, 1)) (hp : pc + 1 = pc')
    (kk : AW G d mc ms M X F k n pc' L (.int (x &&& y) :: st) ws) : AW G d mc ms M X F k n pc L (.int y :: .int x :: st) ws := by
  subst hp
  exact AW.one hi (fun p e R s m args below meth c H locs A ls hx hb hd hc hl h => lv_iand hx hb hd h) kk

theorem x_riushr {x y : Int32} (hi : M.2.2.2.2[i]? = some (pc, .iushr, 1)) (hp : pc + 1 = pc')
    (kk : AW G d mc ms M X F k n pc' L (.int ((x.toUInt32 >>> (y.toUInt32 &&& Int32.toUInt32 31)).toInt32) :: st) ws) : AW G d mc ms M X F k n pc L (.int y :: .int x :: st) ws := by
  subst hp
  exact AW.one hi (fun p e R s m args below meth c H locs A ls hx hb hd hc hl h => lv_iushr hx hb hd rfl h) kk

theorem x_ldcw {idx : Nat} {x : Int32} (hi : M.2.2.2.2[i]? = some (pc, .ldc_w idx, 3)) (hp : pc + 3 = pc') (hw : Cond.constant M.1.cls idx x ∈ lw_tbl)
    (kk : AW G d mc ms M X F k n pc' L (.int x :: st) ws) : AW G d mc ms M X F k n pc L (st) ws := by
  subst hp
  exact AW.one hi (fun p e R s m args below meth c H locs A ls hx hb hd hc hl h => lv_ldcw hx hb hc.1.2.2.2.2 (hc.2.1.2.2.1.use hw rfl rfl) hd h) kk

theorem x_goto {off : Int} (hi : M.2.2.2.2[i]? = some (pc, .goto off, 3)) (hp : (pc : Int) + off = (pc' : Int)) (kk : AW G d mc ms M X F k n pc' L st ws) : AW G d mc ms M X F k n pc L st ws :=
  AW.one hi (fun p e R s m args below meth c H locs A ls hx hb hd hc hl h => lv_goto hx hb hd hp h) kk

theorem x_icmpeq {a b off : Int} {tgt : Nat} (hi : M.2.2.2.2[i]? = some (pc, .if_icmp .eq off, 3)) (hp : pc + 3 = pc') (ht : (pc : Int) + off = (tgt : Int)) (ha : rg a) (hb0 : rg b)
    (kt : a = b → AW G d mc ms M X F k n tgt L st ws) (kf : ¬ a = b → AW G d mc ms M X F k n pc' L st ws) : AW G d mc ms M X F k n pc L (.int (J b) :: .int (J a) :: st) ws := by
  subst hp
  intro p e R s m args below meth c H locs A ls hc hP hD hS hl
  refine lv_icmp_eq hc.1.1 hc.1.2.1 (hc.dec hi) ht (fun h => kt ?_ p e R s m args below meth c H locs A ls hc hP hD hS hl) (fun h => kf ?_ p e R s m args below meth c H locs A ls hc hP hD hS hl)
  · simp only [J_eq ha hb0, J_lt ha hb0, J_lt hb0 ha, J_le ha hb0, J_le hb0 ha, ge_iff_le, gt_iff_lt, ne_eq, Int.not_lt, Int.not_le] at h ⊢; omega
  · simp only [J_eq ha hb0, J_lt ha hb0, J_lt hb0 ha, J_le ha hb0, J_le hb0 ha, ge_iff_le, gt_iff_lt, ne_eq, Int.not_lt, Int.not_le] at h ⊢; omega

theorem x_ifeq {a off : Int} {tgt : Nat} (hi : M.2.2.2.2[i]? = some (pc, .ifCond .eq off, 3)) (hp : pc + 3 = pc') (ht : (pc : Int) + off = (tgt : Int)) (ha : rg a)
    (kt : a = 0 → AW G d mc ms M X F k n tgt L st ws) (kf : ¬ a = 0 → AW G d mc ms M X F k n pc' L st ws) : AW G d mc ms M X F k n pc L (.int (J a) :: st) ws := by
  subst hp
  have hb0 := rg_0
  intro p e R s m args below meth c H locs A ls hc hP hD hS hl
  refine lv_if_eq hc.1.1 hc.1.2.1 (hc.dec hi) ht (fun h => kt ?_ p e R s m args below meth c H locs A ls hc hP hD hS hl) (fun h => kf ?_ p e R s m args below meth c H locs A ls hc hP hD hS hl)
  · simp only [← J_0, J_eq ha hb0, J_lt ha hb0, J_lt hb0 ha, J_le ha hb0, J_le hb0 ha, ge_iff_le, gt_iff_lt, ne_eq, Int.not_lt, Int.not_le] at h ⊢; omega
  · simp only [← J_0, J_eq ha hb0, J_lt ha hb0, J_lt hb0 ha, J_le ha hb0, J_le hb0 ha, ge_iff_le, gt_iff_lt, ne_eq, Int.not_lt, Int.not_le] at h ⊢; omega

theorem x_icmpne {a b off : Int} {tgt : Nat} (hi : M.2.2.2.2[i]? = some (pc, .if_icmp .ne off, 3)) (hp : pc + 3 = pc') (ht : (pc : Int) + off = (tgt : Int)) (ha : rg a) (hb0 : rg b)
    (kt : ¬ a = b → AW G d mc ms M X F k n tgt L st ws) (kf : a = b → AW G d mc ms M X F k n pc' L st ws) : AW G d mc ms M X F k n pc L (.int (J b) :: .int (J a) :: st) ws := by
  subst hp
  intro p e R s m args below meth c H locs A ls hc hP hD hS hl
  refine lv_icmp_ne hc.1.1 hc.1.2.1 (hc.dec hi) ht (fun h => kt ?_ p e R s m args below meth c H locs A ls hc hP hD hS hl) (fun h => kf ?_ p e R s m args below meth c H locs A ls hc hP hD hS hl)
  · simp only [J_eq ha hb0, J_lt ha hb0, J_lt hb0 ha, J_le ha hb0, J_le hb0 ha, ge_iff_le, gt_iff_lt, ne_eq, Int.not_lt, Int.not_le] at h ⊢; omega
  · simp only [J_eq ha hb0, J_lt ha hb0, J_lt hb0 ha, J_le ha hb0, J_le hb0 ha, ge_iff_le, gt_iff_lt, ne_eq, Int.not_lt, Int.not_le] at h ⊢; omega

theorem x_ifne {a off : Int} {tgt : Nat} (hi : M.2.2.2.2[i]? = some (pc, .ifCond .ne off, 3)) (hp : pc + 3 = pc') (ht : (pc : Int) + off = (tgt : Int)) (ha : rg a)
    (kt : ¬ a = 0 → AW G d mc ms M X F k n tgt L st ws) (kf : a = 0 → AW G d mc ms M X F k n pc' L st ws) : AW G d mc ms M X F k n pc L (.int (J a) :: st) ws := by
  subst hp
  have hb0 := rg_0
  intro p e R s m args below meth c H locs A ls hc hP hD hS hl
  refine lv_if_ne hc.1.1 hc.1.2.1 (hc.dec hi) ht (fun h => kt ?_ p e R s m args below meth c H locs A ls hc hP hD hS hl) (fun h => kf ?_ p e R s m args below meth c H locs A ls hc hP hD hS hl)
  · simp only [← J_0, J_eq ha hb0, J_lt ha hb0, J_lt hb0 ha, J_le ha hb0, J_le hb0 ha, ge_iff_le, gt_iff_lt, ne_eq, Int.not_lt, Int.not_le] at h ⊢; omega
  · simp only [← J_0, J_eq ha hb0, J_lt ha hb0, J_lt hb0 ha, J_le ha hb0, J_le hb0 ha, ge_iff_le, gt_iff_lt, ne_eq, Int.not_lt, Int.not_le] at h ⊢; omega

theorem x_icmplt {a b off : Int} {tgt : Nat} (hi : M.2.2.2.2[i]? = some (pc, .if_icmp .lt off, 3)) (hp : pc + 3 = pc') (ht : (pc : Int) + off = (tgt : Int)) (ha : rg a) (hb0 : rg b)
    (kt : a < b → AW G d mc ms M X F k n tgt L st ws) (kf : b ≤ a → AW G d mc ms M X F k n pc' L st ws) : AW G d mc ms M X F k n pc L (.int (J b) :: .int (J a) :: st) ws := by
  subst hp
  intro p e R s m args below meth c H locs A ls hc hP hD hS hl
  refine lv_icmp_lt hc.1.1 hc.1.2.1 (hc.dec hi) ht (fun h => kt ?_ p e R s m args below meth c H locs A ls hc hP hD hS hl) (fun h => kf ?_ p e R s m args below meth c H locs A ls hc hP hD hS hl)
  · simp only [J_eq ha hb0, J_lt ha hb0, J_lt hb0 ha, J_le ha hb0, J_le hb0 ha, ge_iff_le, gt_iff_lt, ne_eq, Int.not_lt, Int.not_le] at h ⊢; omega
  · simp only [J_eq ha hb0, J_lt ha hb0, J_lt hb0 ha, J_le ha hb0, J_le hb0 ha, ge_iff_le, gt_iff_lt, ne_eq, Int.not_lt, Int.not_le] at h ⊢; omega

theorem x_iflt {a off : Int} {tgt : Nat} (hi : M.2.2.2.2[i]? = some (pc, .ifCond .lt off, 3)) (hp : pc + 3 = pc') (ht : (pc : Int) + off = (tgt : Int)) (ha : rg a)
    (kt : a < 0 → AW G d mc ms M X F k n tgt L st ws) (kf : 0 ≤ a → AW G d mc ms M X F k n pc' L st ws) : AW G d mc ms M X F k n pc L (.int (J a) :: st) ws := by
  subst hp
  have hb0 := rg_0
  intro p e R s m args below meth c H locs A ls hc hP hD hS hl
  refine lv_if_lt hc.1.1 hc.1.2.1 (hc.dec hi) ht (fun h => kt ?_ p e R s m args below meth c H locs A ls hc hP hD hS hl) (fun h => kf ?_ p e R s m args below meth c H locs A ls hc hP hD hS hl)
  · simp only [← J_0, J_eq ha hb0, J_lt ha hb0, J_lt hb0 ha, J_le ha hb0, J_le hb0 ha, ge_iff_le, gt_iff_lt, ne_eq, Int.not_lt, Int.not_le] at h ⊢; omega
  · simp only [← J_0, J_eq ha hb0, J_lt ha hb0, J_lt hb0 ha, J_le ha hb0, J_le hb0 ha, ge_iff_le, gt_iff_lt, ne_eq, Int.not_lt, Int.not_le] at h ⊢; omega

theorem x_icmpge {a b off : Int} {tgt : Nat} (hi : M.2.2.2.2[i]? = some (pc, .if_icmp .ge off, 3)) (hp : pc + 3 = pc') (ht : (pc : Int) + off = (tgt : Int)) (ha : rg a) (hb0 : rg b)
    (kt : b ≤ a → AW G d mc ms M X F k n tgt L st ws) (kf : a < b → AW G d mc ms M X F k n pc' L st ws) : AW G d mc ms M X F k n pc L (.int (J b) :: .int (J a) :: st) ws := by
  subst hp
  intro p e R s m args below meth c H locs A ls hc hP hD hS hl
  refine lv_icmp_ge hc.1.1 hc.1.2.1 (hc.dec hi) ht (fun h => kt ?_ p e R s m args below meth c H locs A ls hc hP hD hS hl) (fun h => kf ?_ p e R s m args below meth c H locs A ls hc hP hD hS hl)
  · simp only [J_eq ha hb0, J_lt ha hb0, J_lt hb0 ha, J_le ha hb0, J_le hb0 ha, ge_iff_le, gt_iff_lt, ne_eq, Int.not_lt, Int.not_le] at h ⊢; omega
  · simp only [J_eq ha hb0, J_lt ha hb0, J_lt hb0 ha, J_le ha hb0, J_le hb0 ha, ge_iff_le, gt_iff_lt, ne_eq, Int.not_lt, Int.not_le] at h ⊢; omega

theorem x_ifge {a off : Int} {tgt : Nat} (hi : M.2.2.2.2[i]? = some (pc, .ifCond .ge off, 3)) (hp : pc + 3 = pc') (ht : (pc : Int) + off = (tgt : Int)) (ha : rg a)
    (kt : 0 ≤ a → AW G d mc ms M X F k n tgt L st ws) (kf : a < 0 → AW G d mc ms M X F k n pc' L st ws) : AW G d mc ms M X F k n pc L (.int (J a) :: st) ws := by
  subst hp
  have hb0 := rg_0
  intro p e R s m args below meth c H locs A ls hc hP hD hS hl
  refine lv_if_ge hc.1.1 hc.1.2.1 (hc.dec hi) ht (fun h => kt ?_ p e R s m args below meth c H locs A ls hc hP hD hS hl) (fun h => kf ?_ p e R s m args below meth c H locs A ls hc hP hD hS hl)
  · simp only [← J_0, J_eq ha hb0, J_lt ha hb0, J_lt hb0 ha, J_le ha hb0, J_le hb0 ha, ge_iff_le, gt_iff_lt, ne_eq, Int.not_lt, Int.not_le] at h ⊢; omega
  · simp only [← J_0, J_eq ha hb0, J_lt ha hb0, J_lt hb0 ha, J_le ha hb0, J_le hb0 ha, ge_iff_le, gt_iff_lt, ne_eq, Int.not_lt, Int.not_le] at h ⊢; omega

theorem x_icmpgt {a b off : Int} {tgt : Nat} (hi : M.2.2.2.2[i]? = some (pc, .if_icmp .gt off, 3)) (hp : pc + 3 = pc') (ht : (pc : Int) + off = (tgt : Int)) (ha : rg a) (hb0 : rg b)
    (kt : b < a → AW G d mc ms M X F k n tgt L st ws) (kf : a ≤ b → AW G d mc ms M X F k n pc' L st ws) : AW G d mc ms M X F k n pc L (.int (J b) :: .int (J a) :: st) ws := by
  subst hp
  intro p e R s m args below meth c H locs A ls hc hP hD hS hl
  refine lv_icmp_gt hc.1.1 hc.1.2.1 (hc.dec hi) ht (fun h => kt ?_ p e R s m args below meth c H locs A ls hc hP hD hS hl) (fun h => kf ?_ p e R s m args below meth c H locs A ls hc hP hD hS hl)
  · simp only [J_eq ha hb0, J_lt ha hb0, J_lt hb0 ha, J_le ha hb0, J_le hb0 ha, ge_iff_le, gt_iff_lt, ne_eq, Int.not_lt, Int.not_le] at h ⊢; omega
  · simp only [J_eq ha hb0, J_lt ha hb0, J_lt hb0 ha, J_le ha hb0, J_le hb0 ha, ge_iff_le, gt_iff_lt, ne_eq, Int.not_lt, Int.not_le] at h ⊢; omega

theorem x_ifgt {a off : Int} {tgt : Nat} (hi : M.2.2.2.2[i]? = some (pc, .ifCond .gt off, 3)) (hp : pc + 3 = pc') (ht : (pc : Int) + off = (tgt : Int)) (ha : rg a)
    (kt : 0 < a → AW G d mc ms M X F k n tgt L st ws) (kf : a ≤ 0 → AW G d mc ms M X F k n pc' L st ws) : AW G d mc ms M X F k n pc L (.int (J a) :: st) ws := by
  subst hp
  have hb0 := rg_0
  intro p e R s m args below meth c H locs A ls hc hP hD hS hl
  refine lv_if_gt hc.1.1 hc.1.2.1 (hc.dec hi) ht (fun h => kt ?_ p e R s m args below meth c H locs A ls hc hP hD hS hl) (fun h => kf ?_ p e R s m args below meth c H locs A ls hc hP hD hS hl)
  · simp only [← J_0, J_eq ha hb0, J_lt ha hb0, J_lt hb0 ha, J_le ha hb0, J_le hb0 ha, ge_iff_le, gt_iff_lt, ne_eq, Int.not_lt, Int.not_le] at h ⊢; omega
  · simp only [← J_0, J_eq ha hb0, J_lt ha hb0, J_lt hb0 ha, J_le ha hb0, J_le hb0 ha, ge_iff_le, gt_iff_lt, ne_eq, Int.not_lt, Int.not_le] at h ⊢; omega

theorem x_icmple {a b off : Int} {tgt : Nat} (hi : M.2.2.2.2[i]? = some (pc, .if_icmp .le off, 3)) (hp : pc + 3 = pc') (ht : (pc : Int) + off = (tgt : Int)) (ha : rg a) (hb0 : rg b)
    (kt : a ≤ b → AW G d mc ms M X F k n tgt L st ws) (kf : b < a → AW G d mc ms M X F k n pc' L st ws) : AW G d mc ms M X F k n pc L (.int (J b) :: .int (J a) :: st) ws := by
  subst hp
  intro p e R s m args below meth c H locs A ls hc hP hD hS hl
  refine lv_icmp_le hc.1.1 hc.1.2.1 (hc.dec hi) ht (fun h => kt ?_ p e R s m args below meth c H locs A ls hc hP hD hS hl) (fun h => kf ?_ p e R s m args below meth c H locs A ls hc hP hD hS hl)
  · simp only [J_eq ha hb0, J_lt ha hb0, J_lt hb0 ha, J_le ha hb0, J_le hb0 ha, ge_iff_le, gt_iff_lt, ne_eq, Int.not_lt, Int.not_le] at h ⊢; omega
  · simp only [J_eq ha hb0, J_lt ha hb0, J_lt hb0 ha, J_le ha hb0, J_le hb0 ha, ge_iff_le, gt_iff_lt, ne_eq, Int.not_lt, Int.not_le] at h ⊢; omega

theorem x_ifle {a off : Int} {tgt : Nat} (hi : M.2.2.2.2[i]? = some (pc, .ifCond .le off, 3)) (hp : pc + 3 = pc') (ht : (pc : Int) + off = (tgt : Int)) (ha : rg a)
    (kt : a ≤ 0 → AW G d mc ms M X F k n tgt L st ws) (kf : 0 < a → AW G d mc ms M X F k n pc' L st ws) : AW G d mc ms M X F k n pc L (.int (J a) :: st) ws := by
  subst hp
  have hb0 := rg_0
  intro p e R s m args below meth c H locs A ls hc hP hD hS hl
  refine lv_if_le hc.1.1 hc.1.2.1 (hc.dec hi) ht (fun h => kt ?_ p e R s m args below meth c H locs A ls hc hP hD hS hl) (fun h => kf ?_ p e R s m args below meth c H locs A ls hc hP hD hS hl)
  · simp only [← J_0, J_eq ha hb0, J_lt ha hb0, J_lt hb0 ha, J_le ha hb0, J_le hb0 ha, ge_iff_le, gt_iff_lt, ne_eq, Int.not_lt, Int.not_le] at h ⊢; omega
  · simp only [← J_0, J_eq ha hb0, J_lt ha hb0, J_lt hb0 ha, J_le ha hb0, J_le hb0 ha, ge_iff_le, gt_iff_lt, ne_eq, Int.not_lt, Int.not_le] at h ⊢; omega

theorem x_istore_n {j : Nat} {f : Fin 4} {x : Int32} {L' : List (Option Value)} (hi : M.2.2.2.2[i]? = some (pc, .istore_n f, 1)) (hp : pc + 1 = pc') (hj : (f : Nat) = j) (hc0 : catok L j = true) (hn : j < M.2.2.1) (hL : L.set j (some (.int x)) = L')
    (kk : AW G d mc ms M X F k n pc' L' st ws) : AW G d mc ms M X F k n pc L (.int x :: st) ws := by
  subst hp
  subst hL
  intro p e R s m args below meth c H locs A ls hc hP hD hS hl
  exact lv_istore_n hc.1.1 hc.1.2.1 (hc.dec hi) hj hl hn rfl (fun ls' hl' => kk p e R s m args below meth c H locs A ls' hc hP hD hS (lvh.of hl' (lvl_store1 hc0)))

theorem x_istore {j : Nat} {x : Int32} {L' : List (Option Value)} (hi : M.2.2.2.2[i]? = some (pc, .istore j, 2)) (hp : pc + 2 = pc') (hc0 : catok L j = true) (hn : j < M.2.2.1) (hL : L.set j (some (.int x)) = L')
    (kk : AW G d mc ms M X F k n pc' L' st ws) : AW G d mc ms M X F k n pc L (.int x :: st) ws := by
  subst hp
  subst hL
  intro p e R s m args below meth c H locs A ls hc hP hD hS hl
  exact lv_istore hc.1.1 hc.1.2.1 (hc.dec hi) hl hn rfl (fun ls' hl' => kk p e R s m args below meth c H locs A ls' hc hP hD hS (lvh.of hl' (lvl_store1 hc0)))

theorem x_lstore_n {j : Nat} {f : Fin 4} {x : Int64} {L' : List (Option Value)} (hi : M.2.2.2.2[i]? = some (pc, .lstore_n f, 1)) (hp : pc + 1 = pc') (hj : (f : Nat) = j) (hc0 : catok L j = true) (hn : j + 1 < M.2.2.1) (hL : (L.set j (some (.long x))).set (j + 1) none = L')
    (kk : AW G d mc ms M X F k n pc' L' st ws) : AW G d mc ms M X F k n pc L (.long x :: st) ws := by
  subst hp
  subst hL
  intro p e R s m args below meth c H locs A ls hc hP hD hS hl
  exact lv_lstore_n hc.1.1 hc.1.2.1 (hc.dec hi) hj hl hn rfl (fun ls' hl' => kk p e R s m args below meth c H locs A ls' hc hP hD hS (lvh.of hl' (lvl_store2 hc0)))

theorem x_lstore {j : Nat} {x : Int64} {L' : List (Option Value)} (hi : M.2.2.2.2[i]? = some (pc, .lstore j, 2)) (hp : pc + 2 = pc') (hc0 : catok L j = true) (hn : j + 1 < M.2.2.1) (hL : (L.set j (some (.long x))).set (j + 1) none = L')
    (kk : AW G d mc ms M X F k n pc' L' st ws) : AW G d mc ms M X F k n pc L (.long x :: st) ws := by
  subst hp
  subst hL
  intro p e R s m args below meth c H locs A ls hc hP hD hS hl
  exact lv_lstore hc.1.1 hc.1.2.1 (hc.dec hi) hl hn rfl (fun ls' hl' => kk p e R s m args below meth c H locs A ls' hc hP hD hS (lvh.of hl' (lvl_store2 hc0)))

theorem x_astore_n {j : Nat} {f : Fin 4} {x : Nat} {L' : List (Option Value)} (hi : M.2.2.2.2[i]? = some (pc, .astore_n f, 1)) (hp : pc + 1 = pc') (hj : (f : Nat) = j) (hc0 : catok L j = true) (hn : j < M.2.2.1) (hL : L.set j (some (.ref x)) = L')
    (kk : AW G d mc ms M X F k n pc' L' st ws) : AW G d mc ms M X F k n pc L (.ref x :: st) ws := by
  subst hp
  subst hL
  intro p e R s m args below meth c H locs A ls hc hP hD hS hl
  exact lv_astore_n hc.1.1 hc.1.2.1 (hc.dec hi) hj hl hn rfl (fun ls' hl' => kk p e R s m args below meth c H locs A ls' hc hP hD hS (lvh.of hl' (lvl_store1 hc0)))

theorem x_iinc {j : Nat} {a b : Int} {L' : List (Option Value)} (hi : M.2.2.2.2[i]? = some (pc, .iinc j b, 3)) (hp : pc + 3 = pc') (hl0 : L[j]? = some (some (.int (J a)))) (hc0 : catok L j = true) (hn : j < M.2.2.1) (hL : L.set j (some (.int (J (a + b)))) = L')
    (kk : AW G d mc ms M X F k n pc' L' st ws) : AW G d mc ms M X F k n pc L st ws := by
  subst hp
  subst hL
  intro p e R s m args below meth c H locs A ls hc hP hD hS hl
  obtain ⟨q, hq⟩ := List.getElem?_of_mem ((lvl_mem L 0 (j, .int (J a))).mpr ⟨j, by simp, hl0⟩)
  exact lv_iinc hc.1.1 hc.1.2.1 (hc.dec hi) hl hq (J_add a b) hn rfl (fun ls' hl' => kk p e R s m args below meth c H locs A ls' hc hP hD hS (lvh.of hl' (lvl_store1 hc0)))

theorem x_tableIn {dflt lo hi2 off z v : Int} {offs : Array Int} {len tgt : Nat} (hi : M.2.2.2.2[i]? = some (pc, .tableswitch dflt lo hi2 offs, len)) (hz : z = v) (hv : rg v) (h1 : ¬ v < lo) (h2 : ¬ hi2 < v) (ho : offs[(v - lo).toNat]? = some off) (ht : (pc : Int) + off = (tgt : Int))
    (kk : AW G d mc ms M X F k n tgt L st ws) : AW G d mc ms M X F k n pc L (.int (J z) :: st) ws := by
  subst hz
  exact AW.one hi (fun p e R s m args below meth c H locs A ls hx hb hd hc hl h => lv_tableIn hx hb hd (by rw [J_toInt hv]; exact h1) (by rw [J_toInt hv]; exact h2) (by rw [J_toInt hv]; exact ho) ht h) kk
theorem x_tableOut {dflt lo hi2 z : Int} {offs : Array Int} {len tgt : Nat} (hi : M.2.2.2.2[i]? = some (pc, .tableswitch dflt lo hi2 offs, len)) (hv : rg z) (h : z < lo ∨ hi2 < z) (ht : (pc : Int) + dflt = (tgt : Int))
    (kk : AW G d mc ms M X F k n tgt L st ws) : AW G d mc ms M X F k n pc L (.int (J z) :: st) ws :=
  AW.one hi (fun p e R s m args below meth c H locs A ls hx hb hd hc hl h0 => lv_tableOut hx hb hd (by rw [J_toInt hv]; exact h) ht h0) kk
theorem x_look {dflt off z : Int} {ps : Array (Int × Int)} {len tgt : Nat} (hi : M.2.2.2.2[i]? = some (pc, .lookupswitch dflt ps, len)) (hs : (ps.toList.zip (ps.toList.drop 1)).all (fun (a, next) => a.1 < next.1) = true) (hv : rg z) (ho : Op.lookupswitch.offset ps.toList dflt z = off) (ht : (pc : Int) + off = (tgt : Int))
    (kk : AW G d mc ms M X F k n tgt L st ws) : AW G d mc ms M X F k n pc L (.int (J z) :: st) ws :=
  AW.one hi (fun p e R s m args below meth c H locs A ls hx hb hd hc hl h0 => lv_lookup hx hb hd hs (by rw [J_toInt hv]; exact ho) ht h0) kk
end AWS

section AWE
variable {G : GG} {d mc ms : Nat} {M : MM} {k n pc i : Nat} {L : List (Option Value)} {ws : va_W} {Q : Option Value → va_W → Prop}
theorem x_ireturn {x : Int32} (hi : M.2.2.2.2[i]? = some (pc, .ireturn, 1)) (hr : M.2.2.2.1 = some .int) (hk : k ≤ mc) (hn : n ≤ ms) (hq : Q (some (.int x)) ws) : AW G d mc ms M XT (mF G mc ms Q) k n pc L [.int x] ws := by
  intro p e R s m args below meth c H locs A ls hc hP hD hS hl
  refine W.widen hk hn ?_
  exact W.iret hc.1.1 hc.1.2.1 (hc.1.2.2.1.trans hr) (fun t ht hW => ⟨⟨_, ws, rfl, hq, by rw [ht]; exact hP, hD⟩, hS.F ht⟩) hS.2.2 (hc.dec hi) hc.2.1.1
theorem x_zreturn {z : Int} (hi : M.2.2.2.2[i]? = some (pc, .ireturn, 1)) (hr : M.2.2.2.1 = some .boolean) (hk : k ≤ mc) (hn : n ≤ ms) (hz : z = 0 ∨ z = 1) (hq : Q (some (.int (J z))) ws) : AW G d mc ms M XT (mF G mc ms Q) k n pc L [.int (J z)] ws := by
  intro p e R s m args below meth c H locs A ls hc hP hD hS hl
  refine W.widen hk hn ?_
  exact W.zret hc.1.1 hc.1.2.1 (hc.1.2.2.1.trans hr) (by rcases hz with rfl | rfl <;> decide) (fun t ht hW => ⟨⟨_, ws, rfl, hq, by rw [ht]; exact hP, hD⟩, hS.F ht⟩) hS.2.2 (hc.dec hi) hc.2.1.1
theorem x_lreturn {x : Int64} (hi : M.2.2.2.2[i]? = some (pc, .lreturn, 1)) (hr : M.2.2.2.1 = some .long) (hk : k ≤ mc) (hn : n ≤ ms) (hq : Q (some (.long x)) ws) : AW G d mc ms M XT (mF G mc ms Q) k n pc L [.long x] ws := by
  intro p e R s m args below meth c H locs A ls hc hP hD hS hl
  refine W.widen hk hn ?_
  exact W.lret hc.1.1 hc.1.2.1 (hc.1.2.2.1.trans hr) (fun t ht hW => ⟨⟨_, ws, rfl, hq, by rw [ht]; exact hP, hD⟩, hS.F ht⟩) hS.2.2 (hc.dec hi) hc.2.1.1
theorem x_return (hi : M.2.2.2.2[i]? = some (pc, .return_, 1)) (hr : M.2.2.2.1 = none) (hk : k ≤ mc) (hn : n ≤ ms) (hq : Q none ws) : AW G d mc ms M XT (mF G mc ms Q) k n pc L [] ws := by
  intro p e R s m args below meth c H locs A ls hc hP hD hS hl
  refine W.widen hk hn ?_
  exact W.vret hc.1.1 hc.1.2.1 (hc.1.2.2.1.trans hr) (fun t ht hW => ⟨⟨_, ws, rfl, hq, by rw [ht]; exact hP, hD⟩, hS.F ht⟩) hS.2.2 (hc.dec hi) hc.2.1.1
end AWE
end
section
/-! ===== fields, arrays, calls ===== -/
def CD (ci : Nat) (C : String) (T : u_T) (N : Nat) (ty : Nat → FieldType) : Prop := classes[ci]? = some (C, T, N) ∧ (∀ w ∈ u_ws C T N, w ∈ lw_tbl) ∧ (∀ k, k < N → parseFieldDescriptor (T k).2.2.1 = some (ty k)) ∧ ∀ a, a < N → ∀ b, b < N → a ≠ b → (T a).2.1 ≠ (T b).2.1
def FL (own : String) (idx ci k : Nat) (fin : Bool) (fty : FieldType) : Prop := ∃ (C : String) (T : u_T) (N : Nat) (ty : Nat → FieldType), CD ci C T N ty ∧ k < N ∧ (T k).2.2.2 = fin ∧ ty k = fty ∧ ((Cond.fieldLink own idx (T k).1 (T k).2.1 (T k).2.2.1) ∈ lw_tbl ∨ ∃ host, Cond.fieldLinkNest own idx (T k).1 (T k).2.1 (T k).2.2.1 host ∈ lw_tbl)
theorem u_lay_ok (C : String) (T : u_T) (k : Nat) : okw (u_lay C T k) = true ∧ (u_lay C T k).onTables = true := by
  unfold u_lay; split <;> exact ⟨rfl, rfl⟩
theorem u_ws_use {s : State} {args : Array Value} (h : TabOk s) {C : String} {T : u_T} {N : Nat} (hin : ∀ w ∈ u_ws C T N, w ∈ lw_tbl) : ∀ w ∈ u_ws C T N, w.before args s = true := by
  intro w hw
  have hm := hin w hw
  obtain ⟨k, -, rfl⟩ := List.mem_map.mp hw
  exact h.use hm (u_lay_ok C T k).1 (u_lay_ok C T k).2
section AWM
variable {G : GG} {d mc ms : Nat} {M : MM} {X : XX} {F : FF} {k n pc pc' i : Nat} {L : List (Option Value)} {st : List Value} {ws : va_W}
theorem x_getf {idx ci kf q a : Nat} {fin : Bool} {fty : FieldType} {fs : List Value} {v : Value} (hi : M.2.2.2.2[i]? = some (pc, .getfield idx, 3)) (hp : pc + 3 = pc') (hf : FL M.1.cls idx ci kf fin fty) (hq : ws[q]? = some (a, .inr (ci, fs))) (hv : fs[kf]? = some v)
    (kk : AW G d mc ms M X F k n pc' L (v :: st) ws) : AW G d mc ms M X F k n pc L (.ref a :: st) ws := by
  subst hp
  intro p e R s m args below meth c H locs A ls hc hP hD hS hl
  obtain ⟨C, T, N, ty, ⟨h1, h2, h3, h4⟩, hk, -, -, hlk⟩ := hf
  have h := kk p e R s m args below meth c H locs A ls hc hP hD hS hl
  rcases hlk with hlk | ⟨host, hlk⟩
  · exact va_get hc.1.1 hc.1.2.1 (u_ws_use hc.2.1.2.2.1 h2) (fun _ h => h) hc.1.2.2.2.2 hc.2.1.2.2.2.1 hP q hq h1 kf hk (hc.2.1.2.2.1.use hlk rfl rfl) (fun _ h => h) hv (hc.dec hi) h
  · exact va_getN hc.1.1 hc.1.2.1 (u_ws_use hc.2.1.2.2.1 h2) (fun _ h => h) hc.1.2.2.2.2 hc.2.1.2.2.2.1 hP q hq h1 kf hk (hc.2.1.2.2.1.use hlk rfl rfl) (fun _ h => h) hv (hc.dec hi) h
theorem x_putf {idx ci kf q a : Nat} {fty : FieldType} {fs : List Value} {v : Value} (hi : M.2.2.2.2[i]? = some (pc, .putfield idx, 3)) (hp : pc + 3 = pc') (hf : FL M.1.cls idx ci kf false fty) (hq : ws[q]? = some (a, .inr (ci, fs))) (hl0 : kf < fs.length) (hn : narrow fty v = v) (hfit : fits fty v = true)
    (kk : AW G d mc ms M X F k n pc' L st (ws.set q (a, .inr (ci, fs.set kf v)))) : AW G d mc ms M X F k n pc L (v :: .ref a :: st) ws := by
  subst hp
  intro p e R s m args below meth c H locs A ls hc hP hD hS hl
  obtain ⟨C, T, N, ty, ⟨h1, h2, h3, h4⟩, hk, hfin, hty, hlk⟩ := hf
  have h5 := h3 kf hk
  rw [hty] at h5
  rcases hlk with hlk | ⟨host, hlk⟩
  · exact va_put hc.1.1 hc.1.2.1 (u_ws_use hc.2.1.2.2.1 h2) (fun _ h => h) ty h3 h4 hc.1.2.2.2.2 hc.2.1.2.2.2.1 hP hD hS q hq h1 kf hk (hc.2.1.2.2.1.use hlk rfl rfl) (fun _ h => h) hfin h5 hn hfit hl0 (hc.dec hi) (fun H1 locs1 hP1 hD1 hS1 => kk p e R s m args below meth c H1 locs1 A ls hc hP1 hD1 hS1 hl)
  · exact va_putN hc.1.1 hc.1.2.1 (u_ws_use hc.2.1.2.2.1 h2) (fun _ h => h) ty h3 h4 hc.1.2.2.2.2 hc.2.1.2.2.2.1 hP hD hS q hq h1 kf hk (hc.2.1.2.2.1.use hlk rfl rfl) (fun _ h => h) hfin h5 hn hfit hl0 (hc.dec hi) (fun H1 locs1 hP1 hD1 hS1 => kk p e R s m args below meth c H1 locs1 A ls hc hP1 hD1 hS1 hl)
/-- a final field, in a constructor -/
theorem x_putF {idx ci kf q a : Nat} {fty : FieldType} {fs : List Value} {v : Value} (hi : M.2.2.2.2[i]? = some (pc, .putfield idx, 3)) (hp : pc + 3 = pc') (hf : FL M.1.cls idx ci kf true fty) (hin : M.1.name = "<init>") (hq : ws[q]? = some (a, .inr (ci, fs))) (hl0 : kf < fs.length) (hn : narrow fty v = v) (hfit : fits fty v = true) (hown : ∀ (T : u_T) (C : String) (N : Nat), classes[ci]? = some (C, T, N) → (T kf).1 = M.1.cls) (hnest : ∀ (T : u_T) (C : String) (N : Nat) (host : String), classes[ci]? = some (C, T, N) → ¬ Cond.fieldLinkNest M.1.cls idx (T kf).1 (T kf).2.1 (T kf).2.2.1 host ∈ lw_tbl)
    (kk : AW G d mc ms M X F k n pc' L st (ws.set q (a, .inr (ci, fs.set kf v)))) : AW G d mc ms M X F k n pc L (v :: .ref a :: st) ws := by
  subst hp
  intro p e R s m args below meth c H locs A ls hc hP hD hS hl
  obtain ⟨C, T, N, ty, ⟨h1, h2, h3, h4⟩, hk, hfin, hty, hlk⟩ := hf
  have h5 := h3 kf hk
  rw [hty] at h5
  rcases hlk with hlk | ⟨host, hlk⟩
  · exact va_putF hc.1.1 hc.1.2.1 (u_ws_use hc.2.1.2.2.1 h2) (fun _ h => h) ty h3 h4 hc.1.2.2.2.2 hc.2.1.2.2.2.1 hP hD hS q hq h1 kf hk (hc.2.1.2.2.1.use hlk rfl rfl) (fun _ h => h) hfin (hc.2.1.2.1.trans hin) (hown T C N h1) h5 hn hfit hl0 (hc.dec hi) (fun H1 locs1 hP1 hD1 hS1 => kk p e R s m args below meth c H1 locs1 A ls hc hP1 hD1 hS1 hl)
  · exact absurd hlk (hnest T C N host h1)
/-- arrays of ints -/
theorem x_iald {q a len : Nat} {f : Nat → Int32} {z : Int} (hi : M.2.2.2.2[i]? = some (pc, .iaload, 1)) (hp : pc + 1 = pc') (hq : ws[q]? = some (a, .inl (G.2.2.1.1, len, .inl f))) (h0 : 0 ≤ z) (h1 : z < len) (hlen : len < 2147483648)
    (kk : AW G d mc ms M X F k n pc' L (.int (f z.toNat) :: st) ws) : AW G d mc ms M X F k n pc L (.int (J z) :: .ref a :: st) ws := by
  subst hp
  intro p e R s m args below meth c H locs A ls hc hP hD hS hl
  refine va_iald hc.1.1 hc.1.2.1 hc.2.1.2.2.2.1 hP q 0 hq rfl (J_in h0 h1 hlen) (hc.dec hi) ?_
  rw [J_cl h0 (by omega)]
  exact kk p e R s m args below meth c H locs A ls hc hP hD hS hl
theorem x_zald {q a len : Nat} {f : Nat → Int32} {z : Int} (hi : M.2.2.2.2[i]? = some (pc, .baload, 1)) (hp : pc + 1 = pc') (hq : ws[q]? = some (a, .inl (G.2.2.1.2.1, len, .inl f))) (h0 : 0 ≤ z) (h1 : z < len) (hlen : len < 2147483648)
    (kk : AW G d mc ms M X F k n pc' L (.int (f z.toNat) :: st) ws) : AW G d mc ms M X F k n pc L (.int (J z) :: .ref a :: st) ws := by
  subst hp
  intro p e R s m args below meth c H locs A ls hc hP hD hS hl
  refine va_zald hc.1.1 hc.1.2.1 hc.2.1.2.2.2.1 hP q 1 hq rfl (J_in h0 h1 hlen) (hc.dec hi) ?_
  rw [J_cl h0 (by omega)]
  exact kk p e R s m args below meth c H locs A ls hc hP hD hS hl
theorem x_iast {q a len : Nat} {f : Nat → Int32} {z : Int} {x : Int32} (hi : M.2.2.2.2[i]? = some (pc, .iastore, 1)) (hp : pc + 1 = pc') (hq : ws[q]? = some (a, .inl (G.2.2.1.1, len, .inl f))) (h0 : 0 ≤ z) (h1 : z < len) (hlen : len < 2147483648)
    (kk : AW G d mc ms M X F k n pc' L st (ws.set q (a, .inl (G.2.2.1.1, len, .inl (upd f z.toNat x))))) : AW G d mc ms M X F k n pc L (.int x :: .int (J z) :: .ref a :: st) ws := by
  subst hp
  intro p e R s m args below meth c H locs A ls hc hP hD hS hl
  refine va_iast hc.1.1 hc.1.2.1 hc.2.1.2.2.2.1 hP hD hS q 0 hq rfl (J_in h0 h1 hlen) (hc.dec hi) (fun H1 locs1 hP1 hD1 hS1 => ?_)
  rw [J_cl h0 (by omega)] at hP1 hD1
  exact kk p e R s m args below meth c H1 locs1 A ls hc hP1 hD1 hS1 hl
theorem x_zast {q a len : Nat} {f : Nat → Int32} {z y : Int} (hi : M.2.2.2.2[i]? = some (pc, .bastore, 1)) (hp : pc + 1 = pc') (hq : ws[q]? = some (a, .inl (G.2.2.1.2.1, len, .inl f))) (h0 : 0 ≤ z) (h1 : z < len) (hlen : len < 2147483648) (hy : y = 0 ∨ y = 1)
    (kk : AW G d mc ms M X F k n pc' L st (ws.set q (a, .inl (G.2.2.1.2.1, len, .inl (upd f z.toNat (J y)))))) : AW G d mc ms M X F k n pc L (.int (J y) :: .int (J z) :: .ref a :: st) ws := by
  subst hp
  intro p e R s m args below meth c H locs A ls hc hP hD hS hl
  refine va_zast hc.1.1 hc.1.2.1 hc.2.1.2.2.2.1 hP hD hS q 1 hq rfl (J_in h0 h1 hlen) (hc.dec hi) (fun H1 locs1 hP1 hD1 hS1 => ?_)
  rw [J_cl h0 (by omega)] at hP1 hD1
  have hn : vp_nar .boolean (J y) = J y := by rcases hy with rfl | rfl <;> decide
  first | (rw [hn] at hP1 hD1; exact kk p e R s m args below meth c H1 locs1 A ls hc hP1 hD1 hS1 hl) | exact kk p e R s m args below meth c H1 locs1 A ls hc hP1 hD1 hS1 hl
theorem x_alen {q a t0 : Nat} {cA : ClassId} {x : vp_A} {ty : FieldType} (hi : M.2.2.2.2[i]? = some (pc, .arraylength, 1)) (hp : pc + 1 = pc') (hq : ws[q]? = some (a, .inl (cA, x))) (ht : (gT G)[t0]? = some (cA, ty))
    (kk : AW G d mc ms M X F k n pc' L (.int (J x.1) :: st) ws) : AW G d mc ms M X F k n pc L (.ref a :: st) ws := by
  subst hp
  intro p e R s m args below meth c H locs A ls hc hP hD hS hl
  exact va_alen hc.1.1 hc.1.2.1 hc.2.1.2.2.2.1 hP q t0 hq ht (J_nat x.1).symm (hc.dec hi) (kk p e R s m args below meth c H locs A ls hc hP hD hS hl)
theorem x_aald {q a len : Nat} {f : Nat → Option Nat} {z : Int} {v : Nat} (hi : M.2.2.2.2[i]? = some (pc, .aaload, 1)) (hp : pc + 1 = pc') (hq : ws[q]? = some (a, .inl (G.2.2.1.2.2, len, .inr (.inr (.inr (.inr f)))))) (h0 : 0 ≤ z) (h1 : z < len) (hlen : len < 2147483648) (hv : f z.toNat = some v)
    (kk : AW G d mc ms M X F k n pc' L (.ref v :: st) ws) : AW G d mc ms M X F k n pc L (.int (J z) :: .ref a :: st) ws := by
  subst hp
  intro p e R s m args below meth c H locs A ls hc hP hD hS hl
  refine va_aldq hc.1.1 hc.1.2.1 hc.2.1.2.2.2.1 hP q 2 hq rfl (J_in h0 h1 hlen) (hc.dec hi) ?_
  rw [J_cl h0 (by omega), hv]
  exact kk p e R s m args below meth c H locs A ls hc hP hD hS hl
/-! calls -/
def MLk (own : String) (idx : Nat) (N : MM) (np : Nat) : Prop := (Cond.methodLink own idx N.1 ∈ lw_tbl ∨ ∃ host, Cond.methodLinkNest own idx N.1 host ∈ lw_tbl) ∧ Cond.initialized N.1.cls ∈ lw_tbl ∧ Cond.code N.1 N.2.1 N.2.2.1 N.2.2.2.1 ∈ lw_tbl ∧ (N.1.cls ≠ "java/lang/invoke/MethodHandle" ∧ N.1.cls ≠ "java/lang/invoke/VarHandle") ∧ (parseMethodDescriptor N.1.desc).map (fun d => d.parameters.length) = some np ∧ N.2.2.1 ≤ 21
def MV (own : String) (idx : Nat) (N : MM) (np : Nat) : Prop := MLk own idx N np ∧ Cond.instanceMethod N.1 ∈ lw_tbl ∧ Cond.selects N.1.cls N.1 N.1 ∈ lw_tbl
def MS (own : String) (idx : Nat) (N : MM) (np : Nat) : Prop := MLk own idx N np ∧ Cond.static N.1 ∈ lw_tbl
def MI (own : String) (idx : Nat) (N : MM) (np : Nat) : Prop := MLk own idx N np ∧ N.1.name = "<init>" ∧ N.2.2.2.1 = none ∧ Cond.instanceMethod N.1 ∈ lw_tbl
theorem run_AW {mc' ms' : Nat} {p : Program} {e : Env} {R : Room} {s : State} {m : MethodId} {args : Array Value} {below : List Frame} {meth : Method} {c : Code} {H : Heap} {locs : List Loc} {A : Nat → Prop} {ls : Array Slot} {st rest : List Value} {av : Array Value} {Q : Option Value → va_W → Prop}
    (hr : va_Run p G.1 e R s m args below meth c H locs k n mc' ms' (F0 m pc ls st) rest (AQA G (va_A ws H.size) Q av) (va_A ws H.size)) (hc : CX G d mc ms M X p R s m args meth c A) (hD : va_D A ws) (hS : va_S A s.heap H locs) (hl : lvh ls M.2.2.1 L)
    (kk : ∀ (r : Option Value) (ws' : va_W), Q r ws' → AW G d mc ms M X F (k + mc') (n + ms') (pc + 3) L (psh r rest) ws') : W p G.1 e R s m args below meth c H locs k n (F below args s A) (F0 m pc ls st) := by
  have hA : ∀ q : Nat, va_A ws H.size q → A q := by
    intro q h
    rcases h with ⟨j, x, h⟩ | h
    · exact hD.2 j _ h
    · exact hc.2.1.2.2.2.2 q (Nat.le_trans hS.1 h)
  intro T hT Y
  obtain ⟨v, st₀, t, T', L2, h0, Y', hL, e1, e2, ⟨⟨r, ws', hv, hq, hP1, hD1⟩, hz, hk⟩, stp⟩ := hr T hT Y
  cases hv
  rw [h0] at hz hk
  obtain ⟨t2, a1, b1⟩ := kk v ws' hq p e R s m args below meth c T'.heap (locs ++ L2) A ls hc (by rw [e1]; exact hP1) (hD1.weaken (fun _ _ _ h => hA _ h))
    ⟨Nat.le_trans hS.1 (by rw [e1]; exact hz), fun q h1 h2 => by rw [e1, hk q (Nat.lt_of_lt_of_le h1 hS.1) (fun z => h2 (hA q z))]; exact hS.2.1 q h1 h2, fun q hq => by
      rcases List.mem_append.mp hq with h | h
      · exact hS.2.2 q h
      · exact hA _ (hL q h)⟩ hl T' rfl Y'
  rw [← psh_eq] at a1
  exact ⟨t2, stp t2 a1, b1⟩
theorem len_of {N : MM} {np : Nat} (h : (parseMethodDescriptor N.1.desc).map (fun d => d.parameters.length) = some np) : ∀ sig, parseMethodDescriptor N.1.desc = some sig → np = sig.parameters.length := by
  intro sig h1
  rw [h1] at h
  exact (Option.some.inj h).symm
theorem tab_w {s : State} {U : State} {a' : Array Value} {N : MM} (hT : TabOk s) (hcode : Cond.code N.1 N.2.1 N.2.2.1 N.2.2.2.1 ∈ lw_tbl) (hW : s.WarmedH U.vm) : ∀ w ∈ [Cond.code N.1 N.2.1 N.2.2.1 N.2.2.2.1], w.before a' U = true := by
  intro w hw
  rw [List.mem_singleton.mp hw]
  exact (hT.moved hW).use hcode rfl rfl
theorem x_callV {Q : Option Value → va_W → Prop} {idx q b ci np d' mc' ms' : Nat} {N : MM} {r0 : vw_C} {fs : List Value} {av rest : List Value} (hi : M.2.2.2.2[i]? = some (pc, .invokevirtual idx, 3)) (hp : pc + 3 = pc') (hd : d' + 1 ≤ d) (hm : MV M.1.cls idx N np) (hq : ws[q]? = some (b, .inr (ci, fs))) (hcl : classes[ci]? = some r0) (hcn : r0.1 = N.1.cls) (hn : av.length = np) (hst : st = av.reverse ++ .ref b :: rest) (hroom : (rest.map fun v => v.category).sum ≤ 8) (hcel : k + mc' ≤ mc) (hslo : n + ms' ≤ ms)
    (kk : AM G d' mc' ms' N (.ref b :: av) ws Q) (hQ : ∀ (r : Option Value) (ws' : va_W), Q r ws' → AW G d mc ms M X F (k + mc') (n + ms') pc' L (psh r rest) ws') : AW G d mc ms M X F k n pc L st ws := by
  subst hp
  intro p e R s m args below meth c H locs A ls hc hP hD hS hl
  obtain ⟨⟨hlk, hini, hcode, hy, hlen, hnl⟩, hin, hsel⟩ := hm
  have hT := hc.2.1.2.2.1
  have hM := kk d' (Nat.le_refl _) H.size
  have hpre : PreV s H N.1.cls b (AP G (.ref b :: av) ws H.size) av := ⟨AP.blind _ _ _ _, by rw [← hcn]; exact va_recv hc.2.1.2.2.2.1 hP hcl hq, fun U hU hW => ⟨rfl, by rw [hU], hT.moved hW, by rw [hU]; exact hP, va_K.moved hW.alike hc.2.1.2.2.2.1, hD.weaken (fun _ _ _ _ => trivial)⟩⟩
  have hR : (rmD d' mc' ms').frames + 1 ≤ R.frames ∧ 8 + (N.2.2.1 + 11) + (rmD d' mc' ms').locals ≤ R.locals := ⟨Nat.le_trans hd hc.2.2.1.1, by have h1 := hc.2.2.1.2.1; show 8 + (N.2.2.1 + 11) + 40 * d' ≤ R.locals; omega⟩
  have hcs : k + mc' ≤ R.cells ∧ n + ms' ≤ R.slots := ⟨by rw [hc.2.2.1.2.2.1]; exact hcel, by rw [hc.2.2.1.2.2.2]; exact hslo⟩
  have S : CallFix p m c M.2.1 M.2.2.1 s args ([] : List Cond) M.1.cls := ⟨hc.1.1, hc.1.2.1, hc.1.2.2.2.1, hc.1.2.2.2.2, fun w hw => by cases hw⟩
  rcases hlk with hlk | ⟨host, hlk⟩
  · exact run_AW (va_runV S hM ⟨⟨rfl, rfl, hR.1, hR.2, fun w hw a' U hW => tab_w hT hcode hW w hw, List.mem_cons_self, hT.use hcode rfl rfl, hT.use hini rfl rfl, hy, len_of hlen, hT.use hlk rfl rfl⟩, hT.use hin rfl rfl, hT.use hsel rfl rfl⟩ hpre rfl hn hl.1 hst (lv_room hroom) (hc.dec hi) hcs) hc hD hS hl hQ
  · exact run_AW (va_runVN S hM ⟨⟨⟨rfl, rfl, hR.1, hR.2, fun w hw a' U hW => tab_w hT hcode hW w hw, List.mem_cons_self⟩, hT.use hcode rfl rfl, hT.use hini rfl rfl, hy, len_of hlen, hT.use hlk rfl rfl⟩, hT.use hin rfl rfl, hT.use hsel rfl rfl⟩ hpre rfl hn hl.1 hst (lv_room hroom) (hc.dec hi) hcs) hc hD hS hl hQ
theorem x_callS {Q : Option Value → va_W → Prop} {idx np d' mc' ms' : Nat} {N : MM} {av rest : List Value} (hi : M.2.2.2.2[i]? = some (pc, .invokestatic idx, 3)) (hp : pc + 3 = pc') (hd : d' + 1 ≤ d) (hm : MS M.1.cls idx N np) (hn : av.length = np) (hst : st = av.reverse ++ rest) (hroom : (rest.map fun v => v.category).sum ≤ 8) (hcel : k + mc' ≤ mc) (hslo : n + ms' ≤ ms)
    (kk : AM G d' mc' ms' N av ws Q) (hQ : ∀ (r : Option Value) (ws' : va_W), Q r ws' → AW G d mc ms M X F (k + mc') (n + ms') pc' L (psh r rest) ws') : AW G d mc ms M X F k n pc L st ws := by
  subst hp
  intro p e R s m args below meth c H locs A ls hc hP hD hS hl
  obtain ⟨⟨hlk, hini, hcode, hy, hlen, hnl⟩, hin⟩ := hm
  have hT := hc.2.1.2.2.1
  have hM := kk d' (Nat.le_refl _) H.size
  have hpre : PreS s H (AP G av ws H.size) av := ⟨AP.blind _ _ _ _, fun U hU hW => ⟨rfl, by rw [hU], hT.moved hW, by rw [hU]; exact hP, va_K.moved hW.alike hc.2.1.2.2.2.1, hD.weaken (fun _ _ _ _ => trivial)⟩⟩
  have hR : (rmD d' mc' ms').frames + 1 ≤ R.frames ∧ 8 + (N.2.2.1 + 11) + (rmD d' mc' ms').locals ≤ R.locals := ⟨Nat.le_trans hd hc.2.2.1.1, by have h1 := hc.2.2.1.2.1; show 8 + (N.2.2.1 + 11) + 40 * d' ≤ R.locals; omega⟩
  have hcs : k + mc' ≤ R.cells ∧ n + ms' ≤ R.slots := ⟨by rw [hc.2.2.1.2.2.1]; exact hcel, by rw [hc.2.2.1.2.2.2]; exact hslo⟩
  have S : CallFix p m c M.2.1 M.2.2.1 s args ([] : List Cond) M.1.cls := ⟨hc.1.1, hc.1.2.1, hc.1.2.2.2.1, hc.1.2.2.2.2, fun w hw => by cases hw⟩
  rcases hlk with hlk | ⟨host, hlk⟩
  · exact run_AW (va_runS S hM ⟨⟨rfl, rfl, hR.1, hR.2, fun w hw a' U hW => tab_w hT hcode hW w hw, List.mem_cons_self, hT.use hcode rfl rfl, hT.use hini rfl rfl, hy, len_of hlen, hT.use hlk rfl rfl⟩, hT.use hin rfl rfl⟩ hpre rfl hn hl.1 hst (lv_room hroom) (hc.dec hi) hcs) hc hD hS hl hQ
  · exact run_AW (va_runSN S hM ⟨⟨⟨rfl, rfl, hR.1, hR.2, fun w hw a' U hW => tab_w hT hcode hW w hw, List.mem_cons_self⟩, hT.use hcode rfl rfl, hT.use hini rfl rfl, hy, len_of hlen, hT.use hlk rfl rfl⟩, hT.use hin rfl rfl, trivial⟩ hpre rfl hn hl.1 hst (lv_room hroom) (hc.dec hi) hcs) hc hD hS hl hQ
theorem x_callI {Q : Option Value → va_W → Prop} {idx b np d' mc' ms' : Nat} {N : MM} {av rest : List Value} (hi : M.2.2.2.2[i]? = some (pc, .invokespecial idx, 3)) (hp : pc + 3 = pc') (hd : d' + 1 ≤ d) (hm : MI M.1.cls idx N np) (hn : av.length = np) (hst : st = av.reverse ++ .ref b :: rest) (hroom : (rest.map fun v => v.category).sum ≤ 8) (hcel : k + mc' ≤ mc) (hslo : n + ms' ≤ ms)
    (kk : AM G d' mc' ms' N (.ref b :: av) ws Q) (hQ : ∀ (r : Option Value) (ws' : va_W), Q r ws' → AW G d mc ms M X F (k + mc') (n + ms') pc' L (psh r rest) ws') : AW G d mc ms M X F k n pc L st ws := by
  subst hp
  intro p e R s m args below meth c H locs A ls hc hP hD hS hl
  obtain ⟨⟨hlk, hini, hcode, hy, hlen, hnl⟩, hnm, hret, hin⟩ := hm
  have hT := hc.2.1.2.2.1
  have hM := kk d' (Nat.le_refl _) H.size
  rw [hret] at hM
  rw [hret] at hcode
  have hpre : PreS s H (AP G (.ref b :: av) ws H.size) (.ref b :: av) := ⟨AP.blind _ _ _ _, fun U hU hW => ⟨rfl, by rw [hU], hT.moved hW, by rw [hU]; exact hP, va_K.moved hW.alike hc.2.1.2.2.2.1, hD.weaken (fun _ _ _ _ => trivial)⟩⟩
  have hR : (rmD d' mc' ms').frames + 1 ≤ R.frames ∧ 8 + (N.2.2.1 + 11) + (rmD d' mc' ms').locals ≤ R.locals := ⟨Nat.le_trans hd hc.2.2.1.1, by have h1 := hc.2.2.1.2.1; show 8 + (N.2.2.1 + 11) + 40 * d' ≤ R.locals; omega⟩
  have hcs : k + mc' ≤ R.cells ∧ n + ms' ≤ R.slots := ⟨by rw [hc.2.2.1.2.2.1]; exact hcel, by rw [hc.2.2.1.2.2.2]; exact hslo⟩
  have hws : ∀ w ∈ [Cond.code N.1 N.2.1 N.2.2.1 none], ∀ (a' : Array Value) (U : State), s.WarmedH U.vm → w.before a' U = true := fun w hw a' U hW => by
    rw [List.mem_singleton.mp hw]; exact (hT.moved hW).use hcode rfl rfl
  have S : CallFix p m c M.2.1 M.2.2.1 s args ([] : List Cond) M.1.cls := ⟨hc.1.1, hc.1.2.1, hc.1.2.2.2.1, hc.1.2.2.2.2, fun w hw => by cases hw⟩
  rcases hlk with hlk | ⟨host, hlk⟩
  · exact run_AW (va_runI S hM ⟨⟨rfl, rfl, hR.1, hR.2, hws, List.mem_cons_self, hT.use hcode rfl rfl, hT.use hini rfl rfl, hy, len_of hlen, hT.use hlk rfl rfl⟩, hnm, hT.use hin rfl rfl⟩ hpre rfl hn hl.1 hst (lv_room hroom) (hc.dec hi) hcs) hc hD hS hl hQ
  · exact run_AW (va_runIN S hM ⟨⟨⟨rfl, rfl, hR.1, hR.2, hws, List.mem_cons_self⟩, hT.use hcode rfl rfl, hT.use hini rfl rfl, hy, len_of hlen, hT.use hlk rfl rfl⟩, hnm, hT.use hin rfl rfl⟩ hpre rfl hn hl.1 hst (lv_room hroom) (hc.dec hi) hcs) hc hD hS hl hQ
end AWM
end
section
/-! ===== the world behind the constructors: 85 places ===== -/
abbrev Row : Type := Int → Int
abbrev Mem : Type := Nat → Int → Int
def sA (G : GG) (n : Nat) : Row → va_E := fun r => .inl (G.2.2.1.1, n, .inl (fun j => J (r j)))
def sZ (G : GG) (n : Nat) : Row → va_E := fun r => .inl (G.2.2.1.2.1, n, .inl (fun j => J (r j)))
def shp (G : GG) : List (Row → va_E) := [
  fun _ => .inr (11, [.ref (G.2.2.2 1), .ref (G.2.2.2 8), .ref (G.2.2.2 52), .ref (G.2.2.2 57), .ref (G.2.2.2 63), .ref (G.2.2.2 64), .ref (G.2.2.2 66), .ref (G.2.2.2 70), .ref (G.2.2.2 73), .ref (G.2.2.2 75)]),
  fun _ => .inr (9, [.ref (G.2.2.2 2), .ref (G.2.2.2 5), .ref (G.2.2.2 7)]),
  fun r => .inr (3, [.ref (G.2.2.2 3), .ref (G.2.2.2 4), .int (J (r 2))]),
  sA G 85,
  sA G 4,
  fun r => .inr (8, [.ref (G.2.2.2 6), .int (J (r 1))]),
  sA G 48,
  sA G 6,
  fun r => .inr (5, [.ref (G.2.2.2 9), .int (J (r 1)), .int (J (r 2))]),
  fun _ => .inl (G.2.2.1.2.2, 6, .inr (.inr (.inr (.inr (fun j => if j = 0 then some (G.2.2.2 10) else if j = 1 then some (G.2.2.2 17) else if j = 2 then some (G.2.2.2 24) else if j = 3 then some (G.2.2.2 31) else if j = 4 then some (G.2.2.2 38) else if j = 5 then some (G.2.2.2 45) else none))))),
  fun _ => .inr (9, [.ref (G.2.2.2 11), .ref (G.2.2.2 14), .ref (G.2.2.2 16)]),
  fun r => .inr (3, [.ref (G.2.2.2 12), .ref (G.2.2.2 13), .int (J (r 2))]),
  sA G 85,
  sA G 4,
  fun r => .inr (8, [.ref (G.2.2.2 15), .int (J (r 1))]),
  sA G 48,
  sA G 6,
  fun _ => .inr (9, [.ref (G.2.2.2 18), .ref (G.2.2.2 21), .ref (G.2.2.2 23)]),
  fun r => .inr (3, [.ref (G.2.2.2 19), .ref (G.2.2.2 20), .int (J (r 2))]),
  sA G 85,
  sA G 4,
  fun r => .inr (8, [.ref (G.2.2.2 22), .int (J (r 1))]),
  sA G 48,
  sA G 6,
  fun _ => .inr (9, [.ref (G.2.2.2 25), .ref (G.2.2.2 28), .ref (G.2.2.2 30)]),
  fun r => .inr (3, [.ref (G.2.2.2 26), .ref (G.2.2.2 27), .int (J (r 2))]),
  sA G 85,
  sA G 4,
  fun r => .inr (8, [.ref (G.2.2.2 29), .int (J (r 1))]),
  sA G 48,
  sA G 6,
  fun _ => .inr (9, [.ref (G.2.2.2 32), .ref (G.2.2.2 35), .ref (G.2.2.2 37)]),
  fun r => .inr (3, [.ref (G.2.2.2 33), .ref (G.2.2.2 34), .int (J (r 2))]),
  sA G 85,
  sA G 4,
  fun r => .inr (8, [.ref (G.2.2.2 36), .int (J (r 1))]),
  sA G 48,
  sA G 6,
  fun _ => .inr (9, [.ref (G.2.2.2 39), .ref (G.2.2.2 42), .ref (G.2.2.2 44)]),
  fun r => .inr (3, [.ref (G.2.2.2 40), .ref (G.2.2.2 41), .int (J (r 2))]),
  sA G 85,
  sA G 4,
  fun r => .inr (8, [.ref (G.2.2.2 43), .int (J (r 1))]),
  sA G 48,
  sA G 6,
  fun _ => .inr (9, [.ref (G.2.2.2 46), .ref (G.2.2.2 49), .ref (G.2.2.2 51)]),
  fun r => .inr (3, [.ref (G.2.2.2 47), .ref (G.2.2.2 48), .int (J (r 2))]),
  sA G 85,
  sA G 4,
  fun r => .inr (8, [.ref (G.2.2.2 50), .int (J (r 1))]),
  sA G 48,
  sA G 6,
  fun r => .inr (7, [.ref (G.2.2.2 53), .int (J (r 1)), .int (J (r 2)), .ref (G.2.2.2 54), .ref (G.2.2.2 55), .ref (G.2.2.2 56), .int (J (r 6))]),
  sA G 120,
  sA G 60,
  sA G 60,
  sA G 360,
  fun r => .inr (4, [.ref (G.2.2.2 58), .ref (G.2.2.2 59), .ref (G.2.2.2 60), .ref (G.2.2.2 61), .ref (G.2.2.2 62), .int (J (r 5)), .int (J (r 6))]),
  sA G 6,
  sA G 16,
  sZ G 16,
  sA G 16,
  sA G 16,
  fun r => .inr (10, [.int (J (r 0)), .int (J (r 1))]),
  fun r => .inr (6, [.ref (G.2.2.2 65), .int (J (r 1))]),
  sA G 32,
  fun r => .inr (0, [.ref (G.2.2.2 67), .ref (G.2.2.2 68), .ref (G.2.2.2 69), .int (J (r 3))]),
  sA G 36,
  sA G 6,
  sA G 6,
  fun _ => .inr (1, [.ref (G.2.2.2 71), .ref (G.2.2.2 72)]),
  sA G 16,
  sA G 16,
  fun _ => .inr (2, [.ref (G.2.2.2 74)]),
  sA G 16,
  sA G 3,
  fun r => .inr (12, [.ref (G.2.2.2 77), .int (J (r 1)), .ref (G.2.2.2 78), .ref (G.2.2.2 79), .int (J (r 4)), .long (JL (r 5)), .ref (G.2.2.2 80), .ref (G.2.2.2 81), .int (J (r 8)), .int (J (r 9)), .ref (G.2.2.2 82), .ref (G.2.2.2 83), .ref (G.2.2.2 84)]),
  sA G 1120,
  sA G 3,
  sA G 120,
  sA G 6,
  sA G 6,
  sA G 60,
  sA G 60,
  sA G 360]
def wdA (a : Nat → Nat) (m : Mem) : Nat → List (Row → va_E) → va_W
  | _, [] => []
  | q, f :: t => (a q, f (m q)) :: wdA a m (q + 1) t
def wd (G : GG) (m : Mem) : va_W := wdA G.2.2.2 m 0 (shp G)
def ur (r : Row) (k z : Int) : Row := fun j => if j = k then z else r j
def sr (m : Mem) (q : Nat) (r : Row) : Mem := fun p => if p = q then r else m p
def stm (m : Mem) (q : Nat) (k z : Int) : Mem := sr m q (ur (m q) k z)
theorem sr_eq (m : Mem) (q : Nat) (r : Row) : sr m q r q = r := if_pos rfl
theorem sr_ne (m : Mem) {p q : Nat} (r : Row) (h : p ≠ q) : sr m q r p = m p := if_neg h
theorem stm_eq (m : Mem) (q : Nat) (k z : Int) : stm m q k z q k = z := by simp [stm, sr, ur]
theorem stm_ne (m : Mem) {p q : Nat} (k z : Int) (h : p ≠ q) : stm m q k z p = m p := sr_ne m _ h
theorem stm_ix (m : Mem) (q : Nat) {j k : Int} (z : Int) (h : j ≠ k) : stm m q k z q j = m q j := by simp [stm, sr, ur, h]
theorem wdA_get (a : Nat → Nat) (m : Mem) : ∀ (S : List (Row → va_E)) (b q : Nat), (wdA a m b S)[q]? = (S[q]?).map (fun f => (a (b + q), f (m (b + q))))
  | [], b, q => by simp [wdA]
  | f :: t, b, 0 => by simp [wdA]
  | f :: t, b, q + 1 => by
    rw [wdA, List.getElem?_cons_succ, wdA_get a m t (b + 1) q, List.getElem?_cons_succ]
    rw [show b + 1 + q = b + (q + 1) by omega]
theorem wd_get {G : GG} {m : Mem} {q : Nat} {f : Row → va_E} (h : (shp G)[q]? = some f) : (wd G m)[q]? = some (G.2.2.2 q, f (m q)) := by
  rw [wd, wdA_get, h]; simp
theorem wd_set {G : GG} {m : Mem} {q : Nat} {f : Row → va_E} (h : (shp G)[q]? = some f) (r : Row) : (wd G m).set q (G.2.2.2 q, f r) = wd G (sr m q r) := by
  apply List.ext_getElem?
  intro j
  have hl : q < (wd G m).length := (List.getElem?_eq_some_iff.mp (wd_get (m := m) h)).1
  by_cases hj : j = q
  · subst hj
    rw [List.getElem?_set_self hl, wd_get h, sr_eq]
  · rw [List.getElem?_set_ne (Ne.symm hj), wd, wd, wdA_get, wdA_get]
    cases (shp G)[j]? with
    | none => rfl
    | some g => simp [sr, hj]
def Qm (G : GG) (Q : Option Value → Mem → Prop) : Option Value → va_W → Prop := fun r ws => ∃ m, ws = wd G m ∧ Q r m
/-- a method over the world's memory: from m it returns, with Q -/
def CM (G : GG) (d : Nat) (M : MM) (av : List Value) (m : Mem) (Q : Option Value → Mem → Prop) : Prop := AM G d 0 0 M av (wd G m) (Qm G Q)
/-- its body -/
abbrev BW (G : GG) (d : Nat) (M : MM) (Q : Option Value → Mem → Prop) (pc : Nat) (L : List (Option Value)) (st : List Value) (m : Mem) : Prop := AW G d 0 0 M XT (mF G 0 0 (Qm G Q)) 0 0 pc L st (wd G m)
theorem AQA.mono {G : GG} {A : Nat → Prop} {Q Q' : Option Value → va_W → Prop} (h : ∀ r w, Q r w → Q' r w) {a : Array Value} {s : State} {o : Outcome} {t : State} (hq : AQA G A Q a s o t) : AQA G A Q' a s o t := by
  obtain ⟨⟨r, w, h1, h2, h3⟩, h4⟩ := hq
  exact ⟨⟨r, w, h1, h r w h2, h3⟩, h4⟩
theorem sh0 (G : GG) : (shp G)[0]? = some (fun _ => .inr (11, [.ref (G.2.2.2 1), .ref (G.2.2.2 8), .ref (G.2.2.2 52), .ref (G.2.2.2 57), .ref (G.2.2.2 63), .ref (G.2.2.2 64), .ref (G.2.2.2 66), .ref (G.2.2.2 70), .ref (G.2.2.2 73), .ref (G.2.2.2 75)])) := rfl
theorem sh1 (G : GG) : (shp G)[1]? = some (fun _ => .inr (9, [.ref (G.2.2.2 2), .ref (G.2.2.2 5), .ref (G.2.2.2 7)])) := rfl
theorem sh2 (G : GG) : (shp G)[2]? = some (fun r => .inr (3, [.ref (G.2.2.2 3), .ref (G.2.2.2 4), .int (J (r 2))])) := rfl
theorem sh3 (G : GG) : (shp G)[3]? = some (sA G 85) := rfl
theorem sh4 (G : GG) : (shp G)[4]? = some (sA G 4) := rfl
theorem sh5 (G : GG) : (shp G)[5]? = some (fun r => .inr (8, [.ref (G.2.2.2 6), .int (J (r 1))])) := rfl
theorem sh6 (G : GG) : (shp G)[6]? = some (sA G 48) := rfl
theorem sh7 (G : GG) : (shp G)[7]? = some (sA G 6) := rfl
theorem sh8 (G : GG) : (shp G)[8]? = some (fun r => .inr (5, [.ref (G.2.2.2 9), .int (J (r 1)), .int (J (r 2))])) := rfl
theorem sh9 (G : GG) : (shp G)[9]? = some (fun _ => .inl (G.2.2.1.2.2, 6, .inr (.inr (.inr (.inr (fun j => if j = 0 then some (G.2.2.2 10) else if j = 1 then some (G.2.2.2 17) else if j = 2 then some (G.2.2.2 24) else if j = 3 then some (G.2.2.2 31) else if j = 4 then some (G.2.2.2 38) else if j = 5 then some (G.2.2.2 45) else none)))))) := rfl
theorem sh10 (G : GG) : (shp G)[10]? = some (fun _ => .inr (9, [.ref (G.2.2.2 11), .ref (G.2.2.2 14), .ref (G.2.2.2 16)])) := rfl
theorem sh11 (G : GG) : (shp G)[11]? = some (fun r => .inr (3, [.ref (G.2.2.2 12), .ref (G.2.2.2 13), .int (J (r 2))])) := rfl
theorem sh12 (G : GG) : (shp G)[12]? = some (sA G 85) := rfl
theorem sh13 (G : GG) : (shp G)[13]? = some (sA G 4) := rfl
theorem sh14 (G : GG) : (shp G)[14]? = some (fun r => .inr (8, [.ref (G.2.2.2 15), .int (J (r 1))])) := rfl
theorem sh15 (G : GG) : (shp G)[15]? = some (sA G 48) := rfl
theorem sh16 (G : GG) : (shp G)[16]? = some (sA G 6) := rfl
theorem sh17 (G : GG) : (shp G)[17]? = some (fun _ => .inr (9, [.ref (G.2.2.2 18), .ref (G.2.2.2 21), .ref (G.2.2.2 23)])) := rfl
theorem sh18 (G : GG) : (shp G)[18]? = some (fun r => .inr (3, [.ref (G.2.2.2 19), .ref (G.2.2.2 20), .int (J (r 2))])) := rfl
theorem sh19 (G : GG) : (shp G)[19]? = some (sA G 85) := rfl
theorem sh20 (G : GG) : (shp G)[20]? = some (sA G 4) := rfl
theorem sh21 (G : GG) : (shp G)[21]? = some (fun r => .inr (8, [.ref (G.2.2.2 22), .int (J (r 1))])) := rfl
theorem sh22 (G : GG) : (shp G)[22]? = some (sA G 48) := rfl
theorem sh23 (G : GG) : (shp G)[23]? = some (sA G 6) := rfl
theorem sh24 (G : GG) : (shp G)[24]? = some (fun _ => .inr (9, [.ref (G.2.2.2 25), .ref (G.2.2.2 28), .ref (G.2.2.2 30)])) := rfl
theorem sh25 (G : GG) : (shp G)[25]? = some (fun r => .inr (3, [.ref (G.2.2.2 26), .ref (G.2.2.2 27), .int (J (r 2))])) := rfl
theorem sh26 (G : GG) : (shp G)[26]? = some (sA G 85) := rfl
theorem sh27 (G : GG) : (shp G)[27]? = some (sA G 4) := rfl
theorem sh28 (G : GG) : (shp G)[28]? = some (fun r => .inr (8, [.ref (G.2.2.2 29), .int (J (r 1))])) := rfl
theorem sh29 (G : GG) : (shp G)[29]? = some (sA G 48) := rfl
theorem sh30 (G : GG) : (shp G)[30]? = some (sA G 6) := rfl
theorem sh31 (G : GG) : (shp G)[31]? = some (fun _ => .inr (9, [.ref (G.2.2.2 32), .ref (G.2.2.2 35), .ref (G.2.2.2 37)])) := rfl
theorem sh32 (G : GG) : (shp G)[32]? = some (fun r => .inr (3, [.ref (G.2.2.2 33), .ref (G.2.2.2 34), .int (J (r 2))])) := rfl
theorem sh33 (G : GG) : (shp G)[33]? = some (sA G 85) := rfl
theorem sh34 (G : GG) : (shp G)[34]? = some (sA G 4) := rfl
theorem sh35 (G : GG) : (shp G)[35]? = some (fun r => .inr (8, [.ref (G.2.2.2 36), .int (J (r 1))])) := rfl
theorem sh36 (G : GG) : (shp G)[36]? = some (sA G 48) := rfl
theorem sh37 (G : GG) : (shp G)[37]? = some (sA G 6) := rfl
theorem sh38 (G : GG) : (shp G)[38]? = some (fun _ => .inr (9, [.ref (G.2.2.2 39), .ref (G.2.2.2 42), .ref (G.2.2.2 44)])) := rfl
theorem sh39 (G : GG) : (shp G)[39]? = some (fun r => .inr (3, [.ref (G.2.2.2 40), .ref (G.2.2.2 41), .int (J (r 2))])) := rfl
theorem sh40 (G : GG) : (shp G)[40]? = some (sA G 85) := rfl
theorem sh41 (G : GG) : (shp G)[41]? = some (sA G 4) := rfl
theorem sh42 (G : GG) : (shp G)[42]? = some (fun r => .inr (8, [.ref (G.2.2.2 43), .int (J (r 1))])) := rfl
theorem sh43 (G : GG) : (shp G)[43]? = some (sA G 48) := rfl
theorem sh44 (G : GG) : (shp G)[44]? = some (sA G 6) := rfl
theorem sh45 (G : GG) : (shp G)[45]? = some (fun _ => .inr (9, [.ref (G.2.2.2 46), .ref (G.2.2.2 49), .ref (G.2.2.2 51)])) := rfl
theorem sh46 (G : GG) : (shp G)[46]? = some (fun r => .inr (3, [.ref (G.2.2.2 47), .ref (G.2.2.2 48), .int (J (r 2))])) := rfl
theorem sh47 (G : GG) : (shp G)[47]? = some (sA G 85) := rfl
theorem sh48 (G : GG) : (shp G)[48]? = some (sA G 4) := rfl
theorem sh49 (G : GG) : (shp G)[49]? = some (fun r => .inr (8, [.ref (G.2.2.2 50), .int (J (r 1))])) := rfl
theorem sh50 (G : GG) : (shp G)[50]? = some (sA G 48) := rfl
theorem sh51 (G : GG) : (shp G)[51]? = some (sA G 6) := rfl
theorem sh52 (G : GG) : (shp G)[52]? = some (fun r => .inr (7, [.ref (G.2.2.2 53), .int (J (r 1)), .int (J (r 2)), .ref (G.2.2.2 54), .ref (G.2.2.2 55), .ref (G.2.2.2 56), .int (J (r 6))])) := rfl
theorem sh53 (G : GG) : (shp G)[53]? = some (sA G 120) := rfl
theorem sh54 (G : GG) : (shp G)[54]? = some (sA G 60) := rfl
theorem sh55 (G : GG) : (shp G)[55]? = some (sA G 60) := rfl
theorem sh56 (G : GG) : (shp G)[56]? = some (sA G 360) := rfl
theorem sh57 (G : GG) : (shp G)[57]? = some (fun r => .inr (4, [.ref (G.2.2.2 58), .ref (G.2.2.2 59), .ref (G.2.2.2 60), .ref (G.2.2.2 61), .ref (G.2.2.2 62), .int (J (r 5)), .int (J (r 6))])) := rfl
theorem sh58 (G : GG) : (shp G)[58]? = some (sA G 6) := rfl
theorem sh59 (G : GG) : (shp G)[59]? = some (sA G 16) := rfl
theorem sh60 (G : GG) : (shp G)[60]? = some (sZ G 16) := rfl
theorem sh61 (G : GG) : (shp G)[61]? = some (sA G 16) := rfl
theorem sh62 (G : GG) : (shp G)[62]? = some (sA G 16) := rfl
theorem sh63 (G : GG) : (shp G)[63]? = some (fun r => .inr (10, [.int (J (r 0)), .int (J (r 1))])) := rfl
theorem sh64 (G : GG) : (shp G)[64]? = some (fun r => .inr (6, [.ref (G.2.2.2 65), .int (J (r 1))])) := rfl
theorem sh65 (G : GG) : (shp G)[65]? = some (sA G 32) := rfl
theorem sh66 (G : GG) : (shp G)[66]? = some (fun r => .inr (0, [.ref (G.2.2.2 67), .ref (G.2.2.2 68), .ref (G.2.2.2 69), .int (J (r 3))])) := rfl
theorem sh67 (G : GG) : (shp G)[67]? = some (sA G 36) := rfl
theorem sh68 (G : GG) : (shp G)[68]? = some (sA G 6) := rfl
theorem sh69 (G : GG) : (shp G)[69]? = some (sA G 6) := rfl
theorem sh70 (G : GG) : (shp G)[70]? = some (fun _ => .inr (1, [.ref (G.2.2.2 71), .ref (G.2.2.2 72)])) := rfl
theorem sh71 (G : GG) : (shp G)[71]? = some (sA G 16) := rfl
theorem sh72 (G : GG) : (shp G)[72]? = some (sA G 16) := rfl
theorem sh73 (G : GG) : (shp G)[73]? = some (fun _ => .inr (2, [.ref (G.2.2.2 74)])) := rfl
theorem sh74 (G : GG) : (shp G)[74]? = some (sA G 16) := rfl
theorem sh75 (G : GG) : (shp G)[75]? = some (sA G 3) := rfl
theorem sh76 (G : GG) : (shp G)[76]? = some (fun r => .inr (12, [.ref (G.2.2.2 77), .int (J (r 1)), .ref (G.2.2.2 78), .ref (G.2.2.2 79), .int (J (r 4)), .long (JL (r 5)), .ref (G.2.2.2 80), .ref (G.2.2.2 81), .int (J (r 8)), .int (J (r 9)), .ref (G.2.2.2 82), .ref (G.2.2.2 83), .ref (G.2.2.2 84)])) := rfl
theorem sh77 (G : GG) : (shp G)[77]? = some (sA G 1120) := rfl
theorem sh78 (G : GG) : (shp G)[78]? = some (sA G 3) := rfl
theorem sh79 (G : GG) : (shp G)[79]? = some (sA G 120) := rfl
theorem sh80 (G : GG) : (shp G)[80]? = some (sA G 6) := rfl
theorem sh81 (G : GG) : (shp G)[81]? = some (sA G 6) := rfl
theorem sh82 (G : GG) : (shp G)[82]? = some (sA G 60) := rfl
theorem sh83 (G : GG) : (shp G)[83]? = some (sA G 60) := rfl
theorem sh84 (G : GG) : (shp G)[84]? = some (sA G 360) := rfl
end
section
/-! ===== the rules over the memory ===== -/
section BWM
variable {G : GG} {d mc ms : Nat} {M : MM} {X : XX} {F : FF} {k n pc pc' i : Nat} {L : List (Option Value)} {st : List Value} {m : Mem}
theorem CM.of {G : GG} {d : Nat} {M : MM} {av : List Value} {m : Mem} {Q : Option Value → Mem → Prop} (hdec : ∀ q ∈ M.2.2.2.2, decode M.2.1 q.1 = .ok q.2) (hy : plainName M.1.cls = true ∨ plainFor M.1 = true) (L : List (Option Value)) (hL : entL M.2.2.1 av = L) (hn : (lg_sl av).length ≤ M.2.2.1)
    (h : AW G d 0 0 M XT (mF G 0 0 (Qm G Q)) 0 0 0 L [] (wd G m)) : CM G d M av m Q := AM.ofAW L hL hn hy hdec h
theorem m_getf {idx ci kf q : Nat} {fin : Bool} {fty : FieldType} {f : Row → va_E} {fs : List Value} {v : Value} (hi : M.2.2.2.2[i]? = some (pc, .getfield idx, 3)) (hp : pc + 3 = pc') (hf : FL M.1.cls idx ci kf fin fty) (hs : (shp G)[q]? = some f) (ho : f (m q) = .inr (ci, fs)) (hv : fs[kf]? = some v)
    (kk : AW G d mc ms M X F k n pc' L (v :: st) (wd G m)) : AW G d mc ms M X F k n pc L (.ref (G.2.2.2 q) :: st) (wd G m) :=
  x_getf hi hp hf (by rw [wd_get hs, ho]) hv kk
theorem m_putf {idx ci kf q : Nat} {z kz : Int} {f : Row → va_E} {fs : Row → List Value} {v : Value} {fty : FieldType} (hi : M.2.2.2.2[i]? = some (pc, .putfield idx, 3)) (hp : pc + 3 = pc') (hf : FL M.1.cls idx ci kf false fty) (hs : (shp G)[q]? = some f) (ho : ∀ r, f r = .inr (ci, fs r)) (hw : fs (ur (m q) kz z) = (fs (m q)).set kf v) (hl0 : kf < (fs (m q)).length) (hn : narrow fty v = v) (hfit : fits fty v = true)
    (kk : AW G d mc ms M X F k n pc' L st (wd G (stm m q kz z))) : AW G d mc ms M X F k n pc L (v :: .ref (G.2.2.2 q) :: st) (wd G m) := by
  refine x_putf hi hp hf (by rw [wd_get hs, ho]) hl0 hn hfit ?_
  rw [← hw, ← ho, wd_set hs]
  exact kk
theorem m_iald {q len : Nat} {z : Int} (hi : M.2.2.2.2[i]? = some (pc, .iaload, 1)) (hp : pc + 1 = pc') (hs : (shp G)[q]? = some (sA G len)) (hlen : len < 2147483648) (h0 : 0 ≤ z ∧ z < len)
    (kk : AW G d mc ms M X F k n pc' L (.int (J (m q z)) :: st) (wd G m)) : AW G d mc ms M X F k n pc L (.int (J z) :: .ref (G.2.2.2 q) :: st) (wd G m) := by
  refine x_iald hi hp (wd_get hs) h0.1 h0.2 hlen ?_
  show AW G d mc ms M X F k n pc' L (.int (J (m q (z.toNat : Int))) :: st) (wd G m)
  rw [Int.toNat_of_nonneg h0.1]
  exact kk
theorem m_zald {q len : Nat} {z : Int} (hi : M.2.2.2.2[i]? = some (pc, .baload, 1)) (hp : pc + 1 = pc') (hs : (shp G)[q]? = some (sZ G len)) (hlen : len < 2147483648) (h0 : 0 ≤ z ∧ z < len)
    (kk : AW G d mc ms M X F k n pc' L (.int (J (m q z)) :: st) (wd G m)) : AW G d mc ms M X F k n pc L (.int (J z) :: .ref (G.2.2.2 q) :: st) (wd G m) := by
  refine x_zald hi hp (wd_get hs) h0.1 h0.2 hlen ?_
  show AW G d mc ms M X F k n pc' L (.int (J (m q (z.toNat : Int))) :: st) (wd G m)
  rw [Int.toNat_of_nonneg h0.1]
  exact kk
theorem upd_J {r : Row} {z v : Int} (h0 : 0 ≤ z) : upd (fun j => J (r j)) z.toNat (J v) = fun j : Nat => J (ur r z v j) := by
  funext j
  unfold upd ur
  by_cases hj : j = z.toNat
  · rw [if_pos hj, if_pos (by omega)]
  · rw [if_neg hj, if_neg (by omega)]
theorem m_iast {q len : Nat} {z v : Int} (hi : M.2.2.2.2[i]? = some (pc, .iastore, 1)) (hp : pc + 1 = pc') (hs : (shp G)[q]? = some (sA G len)) (hlen : len < 2147483648) (h0 : 0 ≤ z ∧ z < len)
    (kk : AW G d mc ms M X F k n pc' L st (wd G (stm m q z v))) : AW G d mc ms M X F k n pc L (.int (J v) :: .int (J z) :: .ref (G.2.2.2 q) :: st) (wd G m) := by
  refine x_iast hi hp (wd_get hs) h0.1 h0.2 hlen ?_
  rw [upd_J h0.1]
  have := wd_set (m := m) hs (ur (m q) z v)
  unfold sA at this
  rw [this]
  exact kk
theorem m_zast {q len : Nat} {z v : Int} (hi : M.2.2.2.2[i]? = some (pc, .bastore, 1)) (hp : pc + 1 = pc') (hs : (shp G)[q]? = some (sZ G len)) (hlen : len < 2147483648) (h0 : 0 ≤ z ∧ z < len) (hv : v = 0 ∨ v = 1)
    (kk : AW G d mc ms M X F k n pc' L st (wd G (stm m q z v))) : AW G d mc ms M X F k n pc L (.int (J v) :: .int (J z) :: .ref (G.2.2.2 q) :: st) (wd G m) := by
  refine x_zast hi hp (wd_get hs) h0.1 h0.2 hlen hv ?_
  rw [upd_J h0.1]
  have := wd_set (m := m) hs (ur (m q) z v)
  unfold sZ at this
  rw [this]
  exact kk
theorem m_alen {q len : Nat} (hi : M.2.2.2.2[i]? = some (pc, .arraylength, 1)) (hp : pc + 1 = pc') (hs : (shp G)[q]? = some (sA G len))
    (kk : AW G d mc ms M X F k n pc' L (.int (J len) :: st) (wd G m)) : AW G d mc ms M X F k n pc L (.ref (G.2.2.2 q) :: st) (wd G m) :=
  x_alen (t0 := 0) hi hp (wd_get hs) rfl kk
theorem m_aald {z : Int} {v : Nat} (hi : M.2.2.2.2[i]? = some (pc, .aaload, 1)) (hp : pc + 1 = pc') (h0 : 0 ≤ z ∧ z < 6) (hv : v = 10 + 7 * z.toNat)
    (kk : AW G d mc ms M X F k n pc' L (.ref (G.2.2.2 v) :: st) (wd G m)) : AW G d mc ms M X F k n pc L (.int (J z) :: .ref (G.2.2.2 9) :: st) (wd G m) := by
  refine x_aald (v := G.2.2.2 v) hi hp (wd_get (sh9 G)) h0.1 (show z < (6 : Nat) by omega) (by decide) ?_ kk
  subst hv
  rcases (by omega : z.toNat = 0 ∨ z.toNat = 1 ∨ z.toNat = 2 ∨ z.toNat = 3 ∨ z.toNat = 4 ∨ z.toNat = 5) with h | h | h | h | h | h <;> rw [h] <;> rfl
theorem m_callV {idx q ci np d' : Nat} {N : MM} {r0 : vw_C} {f : Row → va_E} {fs : List Value} {av rest : List Value} (hi : M.2.2.2.2[i]? = some (pc, .invokevirtual idx, 3)) (hp : pc + 3 = pc') (hd : d' + 1 ≤ d) (hm : MV M.1.cls idx N np) (hs : (shp G)[q]? = some f) (ho : f (m q) = .inr (ci, fs)) (hcl : classes[ci]? = some r0) (hcn : r0.1 = N.1.cls) (hn : av.length = np) (hst : st = av.reverse ++ .ref (G.2.2.2 q) :: rest) (hroom : (rest.map fun v => v.category).sum ≤ 8) (hk : k ≤ mc) (hn2 : n ≤ ms)
    (kk : CM G d' N (.ref (G.2.2.2 q) :: av) m (fun r m' => AW G d mc ms M X F k n pc' L (psh r rest) (wd G m'))) : AW G d mc ms M X F k n pc L st (wd G m) :=
  x_callV hi hp hd hm (by rw [wd_get hs, ho]) hcl hcn hn hst hroom hk hn2 kk (fun r ws' h => by obtain ⟨m', rfl, h⟩ := h; exact h)
theorem m_callS {idx np d' : Nat} {N : MM} {av rest : List Value} (hi : M.2.2.2.2[i]? = some (pc, .invokestatic idx, 3)) (hp : pc + 3 = pc') (hd : d' + 1 ≤ d) (hm : MS M.1.cls idx N np) (hn : av.length = np) (hst : st = av.reverse ++ rest) (hroom : (rest.map fun v => v.category).sum ≤ 8) (hk : k ≤ mc) (hn2 : n ≤ ms)
    (kk : CM G d' N av m (fun r m' => AW G d mc ms M X F k n pc' L (psh r rest) (wd G m'))) : AW G d mc ms M X F k n pc L st (wd G m) :=
  x_callS hi hp hd hm hn hst hroom hk hn2 kk (fun r ws' h => by obtain ⟨m', rfl, h⟩ := h; exact h)
theorem m_ireturn {Q : Option Value → Mem → Prop} {x : Int32} (hi : M.2.2.2.2[i]? = some (pc, .ireturn, 1)) (hr : M.2.2.2.1 = some .int) (hq : Q (some (.int x)) m) : AW G d 0 0 M XT (mF G 0 0 (Qm G Q)) 0 0 pc L [.int x] (wd G m) := x_ireturn hi hr (Nat.le_refl _) (Nat.le_refl _) ⟨m, rfl, hq⟩
theorem m_zreturn {Q : Option Value → Mem → Prop} {z : Int} (hi : M.2.2.2.2[i]? = some (pc, .ireturn, 1)) (hr : M.2.2.2.1 = some .boolean) (hz : z = 0 ∨ z = 1) (hq : Q (some (.int (J z))) m) : AW G d 0 0 M XT (mF G 0 0 (Qm G Q)) 0 0 pc L [.int (J z)] (wd G m) := x_zreturn hi hr (Nat.le_refl _) (Nat.le_refl _) hz ⟨m, rfl, hq⟩
theorem m_lreturn {Q : Option Value → Mem → Prop} {x : Int64} (hi : M.2.2.2.2[i]? = some (pc, .lreturn, 1)) (hr : M.2.2.2.1 = some .long) (hq : Q (some (.long x)) m) : AW G d 0 0 M XT (mF G 0 0 (Qm G Q)) 0 0 pc L [.long x] (wd G m) := x_lreturn hi hr (Nat.le_refl _) (Nat.le_refl _) ⟨m, rfl, hq⟩
theorem m_return {Q : Option Value → Mem → Prop} (hi : M.2.2.2.2[i]? = some (pc, .return_, 1)) (hr : M.2.2.2.1 = none) (hq : Q none m) : AW G d 0 0 M XT (mF G 0 0 (Qm G Q)) 0 0 pc L [] (wd G m) := x_return hi hr (Nat.le_refl _) (Nat.le_refl _) ⟨m, rfl, hq⟩
def cpr (f g : Row) (sp dp n : Int) : Row := fun j => if dp ≤ j ∧ j < dp + n then f (sp + (j - dp)) else g j
theorem m_copy {idx q0 q1 n0 n1 : Nat} {sp dp z : Int} (hi : M.2.2.2.2[i]? = some (pc, .invokestatic idx, 3)) (hp : pc + 3 = pc') (hd : 1 ≤ d) (hlk : Cond.methodLink M.1.cls idx arraycopyName ∈ lw_tbl) (hs0 : (shp G)[q0]? = some (sA G n0)) (hs1 : (shp G)[q1]? = some (sA G n1)) (hl0 : n0 < 2147483648) (hl1 : n1 < 2147483648) (h1 : 0 ≤ sp) (h2 : 0 ≤ dp) (h3 : 0 ≤ z) (h4 : sp + z ≤ n0) (h5 : dp + z ≤ n1) (hroom : (st.map fun v => v.category).sum ≤ 8) (w1 : Cond.native arraycopyName ∈ lw_tbl) (w2 : Cond.static arraycopyName ∈ lw_tbl) (w3 : Cond.initialized "java/lang/System" ∈ lw_tbl)
    (kk : AW G d mc ms M X F k n pc' L st (wd G (sr m q1 (cpr (m q0) (m q1) sp dp z)))) : AW G d mc ms M X F k n pc L (.int (J z) :: .int (J dp) :: .ref (G.2.2.2 q1) :: .int (J sp) :: .ref (G.2.2.2 q0) :: st) (wd G m) := by
  subst hp
  intro p e R s m' args below meth c H locs A ls hc hP hD hS hl
  have hT := hc.2.1.2.2.1
  have hR := hc.2.2.1.2.1
  have nn : ∀ y : Int, 0 ≤ y → y < 2147483648 → ¬ J y < 0 := fun y a b => by rw [← J_0, J_lt ⟨by omega, b⟩ rg_0]; omega
  refine va_copyi hc.1.1 hc.1.2.1 (hc.1.2.2.2.1.trans hl.1.symm) hc.1.2.2.2.2 (hT.use hlk rfl rfl) (hT.use w1 rfl rfl) (hT.use w2 rfl rfl) (hT.use w3 rfl rfl) hc.2.1.2.2.2.1 hP hD hS q0 q1 0 0 (wd_get hs0) (wd_get hs1) rfl rfl rfl (nn _ h1 (by omega)) (nn _ h2 (by omega)) (nn _ h3 (by omega)) ?_ ?_ (fun _ _ => rfl) (Nat.le_trans hd hc.2.2.1.1) ?_ (hc.dec hi) (fun H1 locs1 hP1 hD1 hS1 => ?_)
  · rw [J_cl h1 (by omega), J_cl h3 (by omega)]; omega
  · rw [J_cl h2 (by omega), J_cl h3 (by omega)]; omega
  · have : nativeFrameWords "java/lang/System" "arraycopy" 5 + 11 ≤ 32 := by decide
    omega
  · have e1 : va_cpy (fun j : Nat => J (m q0 j)) (fun j : Nat => J (m q1 j)) (J sp).toNatClampNeg (J dp).toNatClampNeg (J z).toNatClampNeg = fun j : Nat => J (cpr (m q0) (m q1) sp dp z j) := by
      rw [J_cl h1 (by omega), J_cl h2 (by omega), J_cl h3 (by omega)]
      funext j
      unfold va_cpy cpr
      by_cases hj : dp.toNat ≤ j ∧ j < dp.toNat + z.toNat
      · rw [if_pos hj, if_pos (by omega)]
        have e3 : ((sp.toNat + (j - dp.toNat) : Nat) : Int) = sp + ((j : Int) - dp) := by omega
        show J (m q0 ((sp.toNat + (j - dp.toNat) : Nat) : Int)) = _
        rw [e3]
      · rw [if_neg hj, if_neg (by omega)]
    rw [e1] at hP1 hD1
    have e2 := wd_set (m := m) hs1 (cpr (m q0) (m q1) sp dp z)
    unfold sA at e2
    rw [e2] at hP1 hD1
    exact kk p e R s m' args below meth c H1 locs1 A ls hc hP1 hD1 hS1 hl
end BWM
end
section
def mX0_init : MM := (yX0_init, cX0_init, 1, none, inX0_init)
def mJ7_fill_53178 : MM := (yJ7_fill_53178, cJ7_fill_53178, 4, none, inJ7_fill_53178)
def mX0_lengthTo : MM := (yX0_lengthTo, cX0_lengthTo, 4, (some .int), inX0_lengthTo)
def mX0_placeFrom : MM := (yX0_placeFrom, cX0_placeFrom, 5, none, inX0_placeFrom)
def mX0_arrange : MM := (yX0_arrange, cX0_arrange, 5, none, inX0_arrange)
def mX1_init : MM := (yX1_init, cX1_init, 1, none, inX1_init)
def mX3_trait : MM := (yX3_trait, cX3_trait, 3, (some .int), inX3_trait)
def mJ6_bitCount_0f7a4 : MM := (yJ6_bitCount_0f7a4, cJ6_bitCount_0f7a4, 1, (some .int), inJ6_bitCount_0f7a4)
def mX3_faceGap : MM := (yX3_faceGap, cX3_faceGap, 2, (some .int), inX3_faceGap)
def mX3_gap : MM := (yX3_gap, cX3_gap, 6, (some .int), inX3_gap)
def mX3_distance : MM := (yX3_distance, cX3_distance, 5, (some .int), inX3_distance)
def mX1_join : MM := (yX1_join, cX1_join, 5, none, inX1_join)
def mX1_find : MM := (yX1_find, cX1_find, 5, none, inX1_find)
def mX1_number : MM := (yX1_number, cX1_number, 6, (some .int), inX1_number)
def mX1_greatest : MM := (yX1_greatest, cX1_greatest, 6, (some .int), inX1_greatest)
def mX2_init : MM := (yX2_init, cX2_init, 1, none, inX2_init)
def mX3_differingParts : MM := (yX3_differingParts, cX3_differingParts, 5, (some .int), inX3_differingParts)
def mX2_compare : MM := (yX2_compare, cX2_compare, 4, none, inX2_compare)
def mX2_minimalPairs : MM := (yX2_minimalPairs, cX2_minimalPairs, 4, (some .int), inX2_minimalPairs)
def mX2_isSufficient : MM := (yX2_isSufficient, cX2_isSufficient, 3, (some .boolean), inX2_isSufficient)
def mX2_leastSufficient : MM := (yX2_leastSufficient, cX2_leastSufficient, 3, (some .int), inX2_leastSufficient)
def mX3_init : MM := (yX3_init, cX3_init, 1, none, inX3_init)
def mX3_copyFrom : MM := (yX3_copyFrom, cX3_copyFrom, 2, none, inX3_copyFrom)
def mX11_isWithin : MM := (yX11_isWithin, cX11_isWithin, 3, (some .boolean), inX11_isWithin)
def mX3_holds : MM := (yX3_holds, cX3_holds, 2, (some .boolean), inX3_holds)
def mX3_setTrait : MM := (yX3_setTrait, cX3_setTrait, 4, none, inX3_setTrait)
def mX3_weightOf : MM := (yX3_weightOf, cX3_weightOf, 2, (some .int), inX3_weightOf)
def mX3_setWeight : MM := (yX3_setWeight, cX3_setWeight, 4, (some .int), inX3_setWeight)
def mX3_ask : MM := (yX3_ask, cX3_ask, 5, none, inX3_ask)
def mX11_areWithin : MM := (yX11_areWithin, cX11_areWithin, 6, (some .boolean), inX11_areWithin)
def mX3_hasEqual : MM := (yX3_hasEqual, cX3_hasEqual, 3, (some .boolean), inX3_hasEqual)
def mX3_appendAsked : MM := (yX3_appendAsked, cX3_appendAsked, 1, (some .int), inX3_appendAsked)
def mX3_addSign : MM := (yX3_addSign, cX3_addSign, 6, (some .int), inX3_addSign)
def mX3_change : MM := (yX3_change, cX3_change, 6, (some .int), inX3_change)
def mX3_remove : MM := (yX3_remove, cX3_remove, 2, (some .int), inX3_remove)
def mX3_addRandom : MM := (yX3_addRandom, cX3_addRandom, 10, (some .int), inX3_addRandom)
def mX3_countOfSort : MM := (yX3_countOfSort, cX3_countOfSort, 4, (some .int), inX3_countOfSort)
def mX3_matchesAsked : MM := (yX3_matchesAsked, cX3_matchesAsked, 4, (some .boolean), inX3_matchesAsked)
def mX3_matches : MM := (yX3_matches, cX3_matches, 3, (some .int), inX3_matches)
def mX3_neighbours : MM := (yX3_neighbours, cX3_neighbours, 5, (some .int), inX3_neighbours)
def mX3_closest : MM := (yX3_closest, cX3_closest, 5, (some .int), inX3_closest)
def mX3_extremePair : MM := (yX3_extremePair, cX3_extremePair, 7, (some .int), inX3_extremePair)
def mX4_init : MM := (yX4_init, cX4_init, 1, none, inX4_init)
def mX8_cell : MM := (yX8_cell, cX8_cell, 3, (some .int), inX8_cell)
def mX8_signIn : MM := (yX8_signIn, cX8_signIn, 2, (some .int), inX8_signIn)
def mX9_sortOfWord : MM := (yX9_sortOfWord, cX9_sortOfWord, 2, (some .int), inX9_sortOfWord)
def mX8_from : MM := (yX8_from, cX8_from, 2, (some .int), inX8_from)
def mX8_to : MM := (yX8_to, cX8_to, 2, (some .int), inX8_to)
def mX11_isSpot : MM := (yX11_isSpot, cX11_isSpot, 1, (some .boolean), inX11_isSpot)
def mX4_setThing : MM := (yX4_setThing, cX4_setThing, 3, none, inX4_setThing)
def mX4_thingAt : MM := (yX4_thingAt, cX4_thingAt, 2, (some .int), inX4_thingAt)
def mX4_interpretWord : MM := (yX4_interpretWord, cX4_interpretWord, 6, none, inX4_interpretWord)
def mX4_interpret : MM := (yX4_interpret, cX4_interpret, 7, none, inX4_interpret)
def mX8_init : MM := (yX8_init, cX8_init, 1, none, inX8_init)
def mX9_init : MM := (yX9_init, cX9_init, 1, none, inX9_init)
def mX5_init : MM := (yX5_init, cX5_init, 2, none, inX5_init)
def mX8_copyFrom : MM := (yX8_copyFrom, cX8_copyFrom, 2, none, inX8_copyFrom)
def mX9_copyFrom : MM := (yX9_copyFrom, cX9_copyFrom, 2, none, inX9_copyFrom)
def mX5_stage : MM := (yX5_stage, cX5_stage, 2, none, inX5_stage)
def mX5_unstage : MM := (yX5_unstage, cX5_unstage, 2, none, inX5_unstage)
def mX5_keepStaged : MM := (yX5_keepStaged, cX5_keepStaged, 1, none, inX5_keepStaged)
def mX5_restore : MM := (yX5_restore, cX5_restore, 2, (some .int), inX5_restore)
def mX6_init : MM := (yX6_init, cX6_init, 1, none, inX6_init)
def mX6_add : MM := (yX6_add, cX6_add, 2, none, inX6_add)
def mX6_follow : MM := (yX6_follow, cX6_follow, 3, none, inX6_follow)
def mX6_lengthWith : MM := (yX6_lengthWith, cX6_lengthWith, 4, (some .int), inX6_lengthWith)
def mX6_setOfSpots : MM := (yX6_setOfSpots, cX6_setOfSpots, 3, (some .int), inX6_setOfSpots)
def mX7_init : MM := (yX7_init, cX7_init, 1, none, inX7_init)
def mX7_append : MM := (yX7_append, cX7_append, 2, (some .int), inX7_append)
def mX7_empty : MM := (yX7_empty, cX7_empty, 2, (some .int), inX7_empty)
def mX7_letter : MM := (yX7_letter, cX7_letter, 2, (some .int), inX7_letter)
def mX7_numbers : MM := (yX7_numbers, cX7_numbers, 2, (some .int), inX7_numbers)
def mX7_number : MM := (yX7_number, cX7_number, 3, (some .int), inX7_number)
def mX7_skipBlanks : MM := (yX7_skipBlanks, cX7_skipBlanks, 1, none, inX7_skipBlanks)
def mX7_current : MM := (yX7_current, cX7_current, 1, (some .int), inX7_current)
def mX7_mostNumbers : MM := (yX7_mostNumbers, cX7_mostNumbers, 1, (some .int), inX7_mostNumbers)
def mX7_isAtDigit : MM := (yX7_isAtDigit, cX7_isAtDigit, 1, (some .boolean), inX7_isAtDigit)
def mX7_parseNumber : MM := (yX7_parseNumber, cX7_parseNumber, 4, (some .boolean), inX7_parseNumber)
def mX7_parseOrder : MM := (yX7_parseOrder, cX7_parseOrder, 5, (some .boolean), inX7_parseOrder)
def mX7_parse : MM := (yX7_parse, cX7_parse, 2, (some .int), inX7_parse)
def mX8_holds : MM := (yX8_holds, cX8_holds, 2, (some .boolean), inX8_holds)
def mX8_countOf : MM := (yX8_countOf, cX8_countOf, 4, (some .int), inX8_countOf)
def mX8_renumberAbove : MM := (yX8_renumberAbove, cX8_renumberAbove, 3, none, inX8_renumberAbove)
def mX8_put : MM := (yX8_put, cX8_put, 5, none, inX8_put)
def mX8_append : MM := (yX8_append, cX8_append, 4, (some .int), inX8_append)
def mX8_moveRows : MM := (yX8_moveRows, cX8_moveRows, 4, none, inX8_moveRows)
def mX8_remove : MM := (yX8_remove, cX8_remove, 2, (some .int), inX8_remove)
def mX8_move : MM := (yX8_move, cX8_move, 6, (some .int), inX8_move)
def mX8_removeAll : MM := (yX8_removeAll, cX8_removeAll, 2, (some .int), inX8_removeAll)
def mX9_signProperty : MM := (yX9_signProperty, cX9_signProperty, 3, (some .int), inX9_signProperty)
def mX9_removeSign : MM := (yX9_removeSign, cX9_removeSign, 2, (some .int), inX9_removeSign)
def mX9_addWord : MM := (yX9_addWord, cX9_addWord, 4, (some .int), inX9_addWord)
def mX9_layOne : MM := (yX9_layOne, cX9_layOne, 5, (some .int), inX9_layOne)
def mX9_layAll : MM := (yX9_layAll, cX9_layAll, 6, (some .int), inX9_layAll)
def mX10_init : MM := (yX10_init, cX10_init, 1, none, inX10_init)
def mX10_check : MM := (yX10_check, cX10_check, 6, none, inX10_check)
def mX11_init : MM := (yX11_init, cX11_init, 1, none, inX11_init)
def mX11_counted : MM := (yX11_counted, cX11_counted, 3, (some .int), inX11_counted)
def mX11_undoable : MM := (yX11_undoable, cX11_undoable, 2, (some .int), inX11_undoable)
def mX11_sign : MM := (yX11_sign, cX11_sign, 6, (some .int), inX11_sign)
def mX11_becomes : MM := (yX11_becomes, cX11_becomes, 4, (some .int), inX11_becomes)
def mX11_drops : MM := (yX11_drops, cX11_drops, 2, (some .int), inX11_drops)
def mX11_weight : MM := (yX11_weight, cX11_weight, 3, (some .int), inX11_weight)
def mX11_draws : MM := (yX11_draws, cX11_draws, 3, (some .int), inX11_draws)
def mX11_of : MM := (yX11_of, cX11_of, 3, (some .int), inX11_of)
def mX11_apart : MM := (yX11_apart, cX11_apart, 4, (some .int), inX11_apart)
def mX11_look : MM := (yX11_look, cX11_look, 5, (some .int), inX11_look)
def mX11_near : MM := (yX11_near, cX11_near, 3, (some .int), inX11_near)
def mX11_nearest : MM := (yX11_nearest, cX11_nearest, 5, (some .int), inX11_nearest)
def mX11_sorts : MM := (yX11_sorts, cX11_sorts, 2, (some .int), inX11_sorts)
def mX11_groups : MM := (yX11_groups, cX11_groups, 3, (some .int), inX11_groups)
def mX11_twins : MM := (yX11_twins, cX11_twins, 2, (some .int), inX11_twins)
def mX11_enough : MM := (yX11_enough, cX11_enough, 2, (some .int), inX11_enough)
def mX11_span : MM := (yX11_span, cX11_span, 4, (some .int), inX11_span)
def mX11_word : MM := (yX11_word, cX11_word, 4, (some .int), inX11_word)
def mX11_cuts : MM := (yX11_cuts, cX11_cuts, 2, (some .int), inX11_cuts)
def mX11_shifts : MM := (yX11_shifts, cX11_shifts, 3, (some .int), inX11_shifts)
def mX11_clears : MM := (yX11_clears, cX11_clears, 1, (some .int), inX11_clears)
def mX11_wordProperty : MM := (yX11_wordProperty, cX11_wordProperty, 3, (some .int), inX11_wordProperty)
def mX11_wordOf : MM := (yX11_wordOf, cX11_wordOf, 3, (some .int), inX11_wordOf)
def mX11_at : MM := (yX11_at, cX11_at, 3, (some .int), inX11_at)
def mX11_examineSentence : MM := (yX11_examineSentence, cX11_examineSentence, 1, none, inX11_examineSentence)
def mX11_sentenceProperty : MM := (yX11_sentenceProperty, cX11_sentenceProperty, 2, (some .int), inX11_sentenceProperty)
def mX11_all : MM := (yX11_all, cX11_all, 2, (some .int), inX11_all)
def mX11_lays : MM := (yX11_lays, cX11_lays, 3, (some .int), inX11_lays)
def mX11_lay : MM := (yX11_lay, cX11_lay, 2, (some .int), inX11_lay)
def mX11_findBestArrangement : MM := (yX11_findBestArrangement, cX11_findBestArrangement, 1, none, inX11_findBestArrangement)
def mX11_best : MM := (yX11_best, cX11_best, 2, (some .int), inX11_best)
def mX11_settles : MM := (yX11_settles, cX11_settles, 2, (some .int), inX11_settles)
def mX11_type : MM := (yX11_type, cX11_type, 2, (some .int), inX11_type)
def mX11_clear : MM := (yX11_clear, cX11_clear, 1, (some .int), inX11_clear)
def mX11_execute : MM := (yX11_execute, cX11_execute, 5, (some .int), inX11_execute)
def mX11_reads : MM := (yX11_reads, cX11_reads, 3, (some .int), inX11_reads)
def mX11_back : MM := (yX11_back, cX11_back, 1, (some .int), inX11_back)
def mX11_figure : MM := (yX11_figure, cX11_figure, 2, (some .int), inX11_figure)
def mX11_told : MM := (yX11_told, cX11_told, 2, (some .int), inX11_told)
def mX11_mixed : MM := (yX11_mixed, cX11_mixed, 3, (some .long), inX11_mixed)
def mX11_withSigns : MM := (yX11_withSigns, cX11_withSigns, 7, (some .long), inX11_withSigns)
def mX11_withWords : MM := (yX11_withWords, cX11_withWords, 7, (some .long), inX11_withWords)
def mX11_digest : MM := (yX11_digest, cX11_digest, 4, (some .long), inX11_digest)
def mX12_init : MM := (yX12_init, cX12_init, 2, none, inX12_init)
def mX12_in : MM := (yX12_in, cX12_in, 6, (some .boolean), inX12_in)
def mX12_has : MM := (yX12_has, cX12_has, 2, (some .boolean), inX12_has)
def mX12_off : MM := (yX12_off, cX12_off, 2, (some .int), inX12_off)
def mX12_refuses : MM := (yX12_refuses, cX12_refuses, 2, (some .int), inX12_refuses)
def mX12_copy : MM := (yX12_copy, cX12_copy, 4, none, inX12_copy)
def mX12_minds : MM := (yX12_minds, cX12_minds, 2, none, inX12_minds)
def mX12_isSign : MM := (yX12_isSign, cX12_isSign, 2, (some .boolean), inX12_isSign)
def mX12_part : MM := (yX12_part, cX12_part, 3, (some .int), inX12_part)
def mX12_isPart : MM := (yX12_isPart, cX12_isPart, 1, (some .boolean), inX12_isPart)
def mX12_areParts : MM := (yX12_areParts, cX12_areParts, 4, (some .boolean), inX12_areParts)
def mX12_signOf : MM := (yX12_signOf, cX12_signOf, 7, (some .int), inX12_signOf)
def mX12_canSign : MM := (yX12_canSign, cX12_canSign, 6, (some .int), inX12_canSign)
def mX12_adds : MM := (yX12_adds, cX12_adds, 7, (some .int), inX12_adds)
def mX12_sign : MM := (yX12_sign, cX12_sign, 7, (some .int), inX12_sign)
def mX12_becomes : MM := (yX12_becomes, cX12_becomes, 6, (some .int), inX12_becomes)
def mX12_wordsWith : MM := (yX12_wordsWith, cX12_wordsWith, 4, (some .int), inX12_wordsWith)
def mX12_canDrop : MM := (yX12_canDrop, cX12_canDrop, 2, (some .int), inX12_canDrop)
def mX12_goes : MM := (yX12_goes, cX12_goes, 3, (some .int), inX12_goes)
def mX12_drops : MM := (yX12_drops, cX12_drops, 3, (some .int), inX12_drops)
def mX12_isWeight : MM := (yX12_isWeight, cX12_isWeight, 2, (some .boolean), inX12_isWeight)
def mX12_weight : MM := (yX12_weight, cX12_weight, 4, (some .int), inX12_weight)
def mX12_next : MM := (yX12_next, cX12_next, 1, (some .int), inX12_next)
def mX12_draws : MM := (yX12_draws, cX12_draws, 10, (some .int), inX12_draws)
def mX12_of : MM := (yX12_of, cX12_of, 3, (some .int), inX12_of)
def mX12_ones : MM := (yX12_ones, cX12_ones, 3, (some .int), inX12_ones)
def mX12_apartBy : MM := (yX12_apartBy, cX12_apartBy, 3, (some .int), inX12_apartBy)
def mX12_apartOf : MM := (yX12_apartOf, cX12_apartOf, 6, (some .int), inX12_apartOf)
def mX12_between : MM := (yX12_between, cX12_between, 3, (some .int), inX12_between)
def mX12_apart : MM := (yX12_apart, cX12_apart, 4, (some .int), inX12_apart)
def mX12_isAsked : MM := (yX12_isAsked, cX12_isAsked, 1, (some .boolean), inX12_isAsked)
def mX12_isSo : MM := (yX12_isSo, cX12_isSo, 4, (some .boolean), inX12_isSo)
def mX12_look : MM := (yX12_look, cX12_look, 7, (some .int), inX12_look)
def mX12_nearOf : MM := (yX12_nearOf, cX12_nearOf, 5, (some .int), inX12_nearOf)
def mX12_near : MM := (yX12_near, cX12_near, 3, (some .int), inX12_near)
def mX12_nearest : MM := (yX12_nearest, cX12_nearest, 7, (some .int), inX12_nearest)
def mX12_sorts : MM := (yX12_sorts, cX12_sorts, 4, (some .int), inX12_sorts)
def mX12_group : MM := (yX12_group, cX12_group, 6, (some .int), inX12_group)
def mX12_groups : MM := (yX12_groups, cX12_groups, 8, (some .int), inX12_groups)
def mX12_unlike : MM := (yX12_unlike, cX12_unlike, 5, (some .int), inX12_unlike)
def mX12_twinsBy : MM := (yX12_twinsBy, cX12_twinsBy, 6, (some .int), inX12_twinsBy)
def mX12_twins : MM := (yX12_twins, cX12_twins, 2, (some .int), inX12_twins)
def mX12_isEnough : MM := (yX12_isEnough, cX12_isEnough, 5, (some .boolean), inX12_isEnough)
def mX12_leastEnough : MM := (yX12_leastEnough, cX12_leastEnough, 3, (some .int), inX12_leastEnough)
def mX12_enough : MM := (yX12_enough, cX12_enough, 2, (some .int), inX12_enough)
def mX12_span : MM := (yX12_span, cX12_span, 7, (some .int), inX12_span)
def mX12_isWord : MM := (yX12_isWord, cX12_isWord, 2, (some .boolean), inX12_isWord)
def mX12_said : MM := (yX12_said, cX12_said, 3, (some .int), inX12_said)
def mX12_sortOf : MM := (yX12_sortOf, cX12_sortOf, 2, (some .int), inX12_sortOf)
def mX12_isSpot : MM := (yX12_isSpot, cX12_isSpot, 1, (some .boolean), inX12_isSpot)
def mX12_canSay : MM := (yX12_canSay, cX12_canSay, 4, (some .int), inX12_canSay)
def mX12_says : MM := (yX12_says, cX12_says, 5, (some .int), inX12_says)
def mX12_word : MM := (yX12_word, cX12_word, 5, (some .int), inX12_word)
def mX12_cuts : MM := (yX12_cuts, cX12_cuts, 3, (some .int), inX12_cuts)
def mX12_swaps : MM := (yX12_swaps, cX12_swaps, 5, none, inX12_swaps)
def mX12_shifts : MM := (yX12_shifts, cX12_shifts, 5, (some .int), inX12_shifts)
def mX12_clearsAll : MM := (yX12_clearsAll, cX12_clearsAll, 2, (some .int), inX12_clearsAll)
def mX12_clears : MM := (yX12_clears, cX12_clears, 1, (some .int), inX12_clears)
def mX12_atSpot : MM := (yX12_atSpot, cX12_atSpot, 5, (some .int), inX12_atSpot)
def mX12_meant : MM := (yX12_meant, cX12_meant, 4, (some .int), inX12_meant)
def mX12_isVain : MM := (yX12_isVain, cX12_isVain, 2, (some .boolean), inX12_isVain)
def mX12_clauseOf : MM := (yX12_clauseOf, cX12_clauseOf, 4, (some .int), inX12_clauseOf)
def mX12_wordIs : MM := (yX12_wordIs, cX12_wordIs, 4, (some .int), inX12_wordIs)
def mX12_wordOf : MM := (yX12_wordOf, cX12_wordOf, 3, (some .int), inX12_wordOf)
def mX12_at : MM := (yX12_at, cX12_at, 3, (some .int), inX12_at)
def mX12_rank : MM := (yX12_rank, cX12_rank, 3, (some .int), inX12_rank)
def mX12_swapsOfAll : MM := (yX12_swapsOfAll, cX12_swapsOfAll, 4, (some .int), inX12_swapsOfAll)
def mX12_ordered : MM := (yX12_ordered, cX12_ordered, 7, (some .int), inX12_ordered)
def mX12_clauses : MM := (yX12_clauses, cX12_clauses, 2, (some .int), inX12_clauses)
def mX12_moved : MM := (yX12_moved, cX12_moved, 3, (some .int), inX12_moved)
def mX12_vain : MM := (yX12_vain, cX12_vain, 3, (some .int), inX12_vain)
def mX12_spots : MM := (yX12_spots, cX12_spots, 4, (some .int), inX12_spots)
def mX12_way : MM := (yX12_way, cX12_way, 5, (some .int), inX12_way)
def mX12_wayNow : MM := (yX12_wayNow, cX12_wayNow, 2, (some .int), inX12_wayNow)
def mX12_all : MM := (yX12_all, cX12_all, 2, (some .int), inX12_all)
def mX12_spotAt : MM := (yX12_spotAt, cX12_spotAt, 3, (some .int), inX12_spotAt)
def mX12_lays : MM := (yX12_lays, cX12_lays, 4, (some .int), inX12_lays)
def mX12_lay : MM := (yX12_lay, cX12_lay, 2, (some .int), inX12_lay)
def mX12_tries : MM := (yX12_tries, cX12_tries, 8, none, inX12_tries)
def mX12_bestWay : MM := (yX12_bestWay, cX12_bestWay, 5, (some .int), inX12_bestWay)
def mX12_best : MM := (yX12_best, cX12_best, 3, (some .int), inX12_best)
def mX12_settles : MM := (yX12_settles, cX12_settles, 3, (some .int), inX12_settles)
def mX12_type : MM := (yX12_type, cX12_type, 2, (some .int), inX12_type)
def mX12_clear : MM := (yX12_clear, cX12_clear, 2, (some .int), inX12_clear)
def mX12_byteHere : MM := (yX12_byteHere, cX12_byteHere, 1, (some .int), inX12_byteHere)
def mX12_blanks : MM := (yX12_blanks, cX12_blanks, 1, none, inX12_blanks)
def mX12_least : MM := (yX12_least, cX12_least, 1, (some .int), inX12_least)
def mX12_isFigure : MM := (yX12_isFigure, cX12_isFigure, 1, (some .boolean), inX12_isFigure)
def mX12_readsOrder : MM := (yX12_readsOrder, cX12_readsOrder, 4, (some .boolean), inX12_readsOrder)
def mX12_readsAll : MM := (yX12_readsAll, cX12_readsAll, 2, (some .boolean), inX12_readsAll)
def mX12_laysAll : MM := (yX12_laysAll, cX12_laysAll, 4, (some .boolean), inX12_laysAll)
def mX12_does : MM := (yX12_does, cX12_does, 9, (some .boolean), inX12_does)
def mX12_reads : MM := (yX12_reads, cX12_reads, 2, (some .int), inX12_reads)
def mX12_back : MM := (yX12_back, cX12_back, 1, (some .int), inX12_back)
def mX12_tells : MM := (yX12_tells, cX12_tells, 2, (some .int), inX12_tells)
def mX12_told : MM := (yX12_told, cX12_told, 2, (some .int), inX12_told)
def mX12_digest : MM := (yX12_digest, cX12_digest, 5, (some .long), inX12_digest)
def mJ9_abs_0f7a4 : MM := (yJ9_abs_0f7a4, cJ9_abs_0f7a4, 1, (some .int), inJ9_abs_0f7a4)
def mJ9_max_7cf53 : MM := (yJ9_max_7cf53, cJ9_max_7cf53, 2, (some .int), inJ9_max_7cf53)
def mJ9_min_7cf53 : MM := (yJ9_min_7cf53, cJ9_min_7cf53, 2, (some .int), inJ9_min_7cf53)
theorem mkX0_init (own : String) (idx : Nat) (h : Cond.methodLink own idx yX0_init ∈ lw_tbl ∨ ∃ host, Cond.methodLinkNest own idx yX0_init host ∈ lw_tbl) : MLk own idx mX0_init 0 := ⟨h, List.mem_of_getElem? (i := 90) (by decide +kernel), List.mem_of_getElem? (i := 283) (by decide +kernel), ⟨by decide +kernel, by decide +kernel⟩, by decide +kernel, by decide⟩
theorem miX0_init (own : String) (idx : Nat) (h : Cond.methodLink own idx yX0_init ∈ lw_tbl ∨ ∃ host, Cond.methodLinkNest own idx yX0_init host ∈ lw_tbl) : MI own idx mX0_init 0 := ⟨mkX0_init own idx h, rfl, rfl, List.mem_of_getElem? (i := 282) (by decide +kernel)⟩
theorem mkX0_arrange (own : String) (idx : Nat) (h : Cond.methodLink own idx yX0_arrange ∈ lw_tbl ∨ ∃ host, Cond.methodLinkNest own idx yX0_arrange host ∈ lw_tbl) : MLk own idx mX0_arrange 1 := ⟨h, List.mem_of_getElem? (i := 90) (by decide +kernel), List.mem_of_getElem? (i := 800) (by decide +kernel), ⟨by decide +kernel, by decide +kernel⟩, by decide +kernel, by decide⟩
theorem mvX0_arrange (own : String) (idx : Nat) (h : Cond.methodLink own idx yX0_arrange ∈ lw_tbl ∨ ∃ host, Cond.methodLinkNest own idx yX0_arrange host ∈ lw_tbl) : MV own idx mX0_arrange 1 := ⟨mkX0_arrange own idx h, List.mem_of_getElem? (i := 798) (by decide +kernel), List.mem_of_getElem? (i := 799) (by decide +kernel)⟩
theorem mkX0_placeFrom (own : String) (idx : Nat) (h : Cond.methodLink own idx yX0_placeFrom ∈ lw_tbl ∨ ∃ host, Cond.methodLinkNest own idx yX0_placeFrom host ∈ lw_tbl) : MLk own idx mX0_placeFrom 4 := ⟨h, List.mem_of_getElem? (i := 90) (by decide +kernel), List.mem_of_getElem? (i := 807) (by decide +kernel), ⟨by decide +kernel, by decide +kernel⟩, by decide +kernel, by decide⟩
theorem msX0_placeFrom (own : String) (idx : Nat) (h : Cond.methodLink own idx yX0_placeFrom ∈ lw_tbl ∨ ∃ host, Cond.methodLinkNest own idx yX0_placeFrom host ∈ lw_tbl) : MS own idx mX0_placeFrom 4 := ⟨mkX0_placeFrom own idx h, List.mem_of_getElem? (i := 806) (by decide +kernel)⟩
theorem mkX0_lengthTo (own : String) (idx : Nat) (h : Cond.methodLink own idx yX0_lengthTo ∈ lw_tbl ∨ ∃ host, Cond.methodLinkNest own idx yX0_lengthTo host ∈ lw_tbl) : MLk own idx mX0_lengthTo 1 := ⟨h, List.mem_of_getElem? (i := 90) (by decide +kernel), List.mem_of_getElem? (i := 812) (by decide +kernel), ⟨by decide +kernel, by decide +kernel⟩, by decide +kernel, by decide⟩
theorem mvX0_lengthTo (own : String) (idx : Nat) (h : Cond.methodLink own idx yX0_lengthTo ∈ lw_tbl ∨ ∃ host, Cond.methodLinkNest own idx yX0_lengthTo host ∈ lw_tbl) : MV own idx mX0_lengthTo 1 := ⟨mkX0_lengthTo own idx h, List.mem_of_getElem? (i := 811) (by decide +kernel), List.mem_of_getElem? (i := 17) (by decide +kernel)⟩
theorem mkX1_init (own : String) (idx : Nat) (h : Cond.methodLink own idx yX1_init ∈ lw_tbl ∨ ∃ host, Cond.methodLinkNest own idx yX1_init host ∈ lw_tbl) : MLk own idx mX1_init 0 := ⟨h, List.mem_of_getElem? (i := 91) (by decide +kernel), List.mem_of_getElem? (i := 304) (by decide +kernel), ⟨by decide +kernel, by decide +kernel⟩, by decide +kernel, by decide⟩
theorem miX1_init (own : String) (idx : Nat) (h : Cond.methodLink own idx yX1_init ∈ lw_tbl ∨ ∃ host, Cond.methodLinkNest own idx yX1_init host ∈ lw_tbl) : MI own idx mX1_init 0 := ⟨mkX1_init own idx h, rfl, rfl, List.mem_of_getElem? (i := 303) (by decide +kernel)⟩
theorem mkX1_find (own : String) (idx : Nat) (h : Cond.methodLink own idx yX1_find ∈ lw_tbl ∨ ∃ host, Cond.methodLinkNest own idx yX1_find host ∈ lw_tbl) : MLk own idx mX1_find 2 := ⟨h, List.mem_of_getElem? (i := 91) (by decide +kernel), List.mem_of_getElem? (i := 576) (by decide +kernel), ⟨by decide +kernel, by decide +kernel⟩, by decide +kernel, by decide⟩
theorem mvX1_find (own : String) (idx : Nat) (h : Cond.methodLink own idx yX1_find ∈ lw_tbl ∨ ∃ host, Cond.methodLinkNest own idx yX1_find host ∈ lw_tbl) : MV own idx mX1_find 2 := ⟨mkX1_find own idx h, List.mem_of_getElem? (i := 574) (by decide +kernel), List.mem_of_getElem? (i := 575) (by decide +kernel)⟩
theorem mkX1_join (own : String) (idx : Nat) (h : Cond.methodLink own idx yX1_join ∈ lw_tbl ∨ ∃ host, Cond.methodLinkNest own idx yX1_join host ∈ lw_tbl) : MLk own idx mX1_join 3 := ⟨h, List.mem_of_getElem? (i := 91) (by decide +kernel), List.mem_of_getElem? (i := 584) (by decide +kernel), ⟨by decide +kernel, by decide +kernel⟩, by decide +kernel, by decide⟩
theorem mvX1_join (own : String) (idx : Nat) (h : Cond.methodLink own idx yX1_join ∈ lw_tbl ∨ ∃ host, Cond.methodLinkNest own idx yX1_join host ∈ lw_tbl) : MV own idx mX1_join 3 := ⟨mkX1_join own idx h, List.mem_of_getElem? (i := 583) (by decide +kernel), List.mem_of_getElem? (i := 7) (by decide +kernel)⟩
theorem mkX1_number (own : String) (idx : Nat) (h : Cond.methodLink own idx yX1_number ∈ lw_tbl ∨ ∃ host, Cond.methodLinkNest own idx yX1_number host ∈ lw_tbl) : MLk own idx mX1_number 0 := ⟨h, List.mem_of_getElem? (i := 91) (by decide +kernel), List.mem_of_getElem? (i := 588) (by decide +kernel), ⟨by decide +kernel, by decide +kernel⟩, by decide +kernel, by decide⟩
theorem mvX1_number (own : String) (idx : Nat) (h : Cond.methodLink own idx yX1_number ∈ lw_tbl ∨ ∃ host, Cond.methodLinkNest own idx yX1_number host ∈ lw_tbl) : MV own idx mX1_number 0 := ⟨mkX1_number own idx h, List.mem_of_getElem? (i := 586) (by decide +kernel), List.mem_of_getElem? (i := 587) (by decide +kernel)⟩
theorem mkX1_greatest (own : String) (idx : Nat) (h : Cond.methodLink own idx yX1_greatest ∈ lw_tbl ∨ ∃ host, Cond.methodLinkNest own idx yX1_greatest host ∈ lw_tbl) : MLk own idx mX1_greatest 0 := ⟨h, List.mem_of_getElem? (i := 91) (by decide +kernel), List.mem_of_getElem? (i := 592) (by decide +kernel), ⟨by decide +kernel, by decide +kernel⟩, by decide +kernel, by decide⟩
theorem mvX1_greatest (own : String) (idx : Nat) (h : Cond.methodLink own idx yX1_greatest ∈ lw_tbl ∨ ∃ host, Cond.methodLinkNest own idx yX1_greatest host ∈ lw_tbl) : MV own idx mX1_greatest 0 := ⟨mkX1_greatest own idx h, List.mem_of_getElem? (i := 590) (by decide +kernel), List.mem_of_getElem? (i := 591) (by decide +kernel)⟩
theorem mkX2_init (own : String) (idx : Nat) (h : Cond.methodLink own idx yX2_init ∈ lw_tbl ∨ ∃ host, Cond.methodLinkNest own idx yX2_init host ∈ lw_tbl) : MLk own idx mX2_init 0 := ⟨h, List.mem_of_getElem? (i := 92) (by decide +kernel), List.mem_of_getElem? (i := 317) (by decide +kernel), ⟨by decide +kernel, by decide +kernel⟩, by decide +kernel, by decide⟩
theorem miX2_init (own : String) (idx : Nat) (h : Cond.methodLink own idx yX2_init ∈ lw_tbl ∨ ∃ host, Cond.methodLinkNest own idx yX2_init host ∈ lw_tbl) : MI own idx mX2_init 0 := ⟨mkX2_init own idx h, rfl, rfl, List.mem_of_getElem? (i := 316) (by decide +kernel)⟩
theorem mkX2_compare (own : String) (idx : Nat) (h : Cond.methodLink own idx yX2_compare ∈ lw_tbl ∨ ∃ host, Cond.methodLinkNest own idx yX2_compare host ∈ lw_tbl) : MLk own idx mX2_compare 1 := ⟨h, List.mem_of_getElem? (i := 92) (by decide +kernel), List.mem_of_getElem? (i := 603) (by decide +kernel), ⟨by decide +kernel, by decide +kernel⟩, by decide +kernel, by decide⟩
theorem mvX2_compare (own : String) (idx : Nat) (h : Cond.methodLink own idx yX2_compare ∈ lw_tbl ∨ ∃ host, Cond.methodLinkNest own idx yX2_compare host ∈ lw_tbl) : MV own idx mX2_compare 1 := ⟨mkX2_compare own idx h, List.mem_of_getElem? (i := 601) (by decide +kernel), List.mem_of_getElem? (i := 602) (by decide +kernel)⟩
theorem mkX2_minimalPairs (own : String) (idx : Nat) (h : Cond.methodLink own idx yX2_minimalPairs ∈ lw_tbl ∨ ∃ host, Cond.methodLinkNest own idx yX2_minimalPairs host ∈ lw_tbl) : MLk own idx mX2_minimalPairs 1 := ⟨h, List.mem_of_getElem? (i := 92) (by decide +kernel), List.mem_of_getElem? (i := 609) (by decide +kernel), ⟨by decide +kernel, by decide +kernel⟩, by decide +kernel, by decide⟩
theorem mvX2_minimalPairs (own : String) (idx : Nat) (h : Cond.methodLink own idx yX2_minimalPairs ∈ lw_tbl ∨ ∃ host, Cond.methodLinkNest own idx yX2_minimalPairs host ∈ lw_tbl) : MV own idx mX2_minimalPairs 1 := ⟨mkX2_minimalPairs own idx h, List.mem_of_getElem? (i := 607) (by decide +kernel), List.mem_of_getElem? (i := 608) (by decide +kernel)⟩
theorem mkX2_isSufficient (own : String) (idx : Nat) (h : Cond.methodLink own idx yX2_isSufficient ∈ lw_tbl ∨ ∃ host, Cond.methodLinkNest own idx yX2_isSufficient host ∈ lw_tbl) : MLk own idx mX2_isSufficient 1 := ⟨h, List.mem_of_getElem? (i := 92) (by decide +kernel), List.mem_of_getElem? (i := 622) (by decide +kernel), ⟨by decide +kernel, by decide +kernel⟩, by decide +kernel, by decide⟩
theorem mvX2_isSufficient (own : String) (idx : Nat) (h : Cond.methodLink own idx yX2_isSufficient ∈ lw_tbl ∨ ∃ host, Cond.methodLinkNest own idx yX2_isSufficient host ∈ lw_tbl) : MV own idx mX2_isSufficient 1 := ⟨mkX2_isSufficient own idx h, List.mem_of_getElem? (i := 620) (by decide +kernel), List.mem_of_getElem? (i := 621) (by decide +kernel)⟩
theorem mkX2_leastSufficient (own : String) (idx : Nat) (h : Cond.methodLink own idx yX2_leastSufficient ∈ lw_tbl ∨ ∃ host, Cond.methodLinkNest own idx yX2_leastSufficient host ∈ lw_tbl) : MLk own idx mX2_leastSufficient 0 := ⟨h, List.mem_of_getElem? (i := 92) (by decide +kernel), List.mem_of_getElem? (i := 617) (by decide +kernel), ⟨by decide +kernel, by decide +kernel⟩, by decide +kernel, by decide⟩
theorem mvX2_leastSufficient (own : String) (idx : Nat) (h : Cond.methodLink own idx yX2_leastSufficient ∈ lw_tbl ∨ ∃ host, Cond.methodLinkNest own idx yX2_leastSufficient host ∈ lw_tbl) : MV own idx mX2_leastSufficient 0 := ⟨mkX2_leastSufficient own idx h, List.mem_of_getElem? (i := 615) (by decide +kernel), List.mem_of_getElem? (i := 616) (by decide +kernel)⟩
theorem mkX3_init (own : String) (idx : Nat) (h : Cond.methodLink own idx yX3_init ∈ lw_tbl ∨ ∃ host, Cond.methodLinkNest own idx yX3_init host ∈ lw_tbl) : MLk own idx mX3_init 0 := ⟨h, List.mem_of_getElem? (i := 83) (by decide +kernel), List.mem_of_getElem? (i := 116) (by decide +kernel), ⟨by decide +kernel, by decide +kernel⟩, by decide +kernel, by decide⟩
theorem miX3_init (own : String) (idx : Nat) (h : Cond.methodLink own idx yX3_init ∈ lw_tbl ∨ ∃ host, Cond.methodLinkNest own idx yX3_init host ∈ lw_tbl) : MI own idx mX3_init 0 := ⟨mkX3_init own idx h, rfl, rfl, List.mem_of_getElem? (i := 115) (by decide +kernel)⟩
theorem mkX3_copyFrom (own : String) (idx : Nat) (h : Cond.methodLink own idx yX3_copyFrom ∈ lw_tbl ∨ ∃ host, Cond.methodLinkNest own idx yX3_copyFrom host ∈ lw_tbl) : MLk own idx mX3_copyFrom 1 := ⟨h, List.mem_of_getElem? (i := 83) (by decide +kernel), List.mem_of_getElem? (i := 369) (by decide +kernel), ⟨by decide +kernel, by decide +kernel⟩, by decide +kernel, by decide⟩
theorem mvX3_copyFrom (own : String) (idx : Nat) (h : Cond.methodLink own idx yX3_copyFrom ∈ lw_tbl ∨ ∃ host, Cond.methodLinkNest own idx yX3_copyFrom host ∈ lw_tbl) : MV own idx mX3_copyFrom 1 := ⟨mkX3_copyFrom own idx h, List.mem_of_getElem? (i := 367) (by decide +kernel), List.mem_of_getElem? (i := 368) (by decide +kernel)⟩
theorem mkX3_holds (own : String) (idx : Nat) (h : Cond.methodLink own idx yX3_holds ∈ lw_tbl ∨ ∃ host, Cond.methodLinkNest own idx yX3_holds host ∈ lw_tbl) : MLk own idx mX3_holds 1 := ⟨h, List.mem_of_getElem? (i := 83) (by decide +kernel), List.mem_of_getElem? (i := 440) (by decide +kernel), ⟨by decide +kernel, by decide +kernel⟩, by decide +kernel, by decide⟩
theorem mvX3_holds (own : String) (idx : Nat) (h : Cond.methodLink own idx yX3_holds ∈ lw_tbl ∨ ∃ host, Cond.methodLinkNest own idx yX3_holds host ∈ lw_tbl) : MV own idx mX3_holds 1 := ⟨mkX3_holds own idx h, List.mem_of_getElem? (i := 438) (by decide +kernel), List.mem_of_getElem? (i := 439) (by decide +kernel)⟩
theorem mkX3_trait (own : String) (idx : Nat) (h : Cond.methodLink own idx yX3_trait ∈ lw_tbl ∨ ∃ host, Cond.methodLinkNest own idx yX3_trait host ∈ lw_tbl) : MLk own idx mX3_trait 2 := ⟨h, List.mem_of_getElem? (i := 83) (by decide +kernel), List.mem_of_getElem? (i := 413) (by decide +kernel), ⟨by decide +kernel, by decide +kernel⟩, by decide +kernel, by decide⟩
theorem mvX3_trait (own : String) (idx : Nat) (h : Cond.methodLink own idx yX3_trait ∈ lw_tbl ∨ ∃ host, Cond.methodLinkNest own idx yX3_trait host ∈ lw_tbl) : MV own idx mX3_trait 2 := ⟨mkX3_trait own idx h, List.mem_of_getElem? (i := 411) (by decide +kernel), List.mem_of_getElem? (i := 412) (by decide +kernel)⟩
theorem mkX3_setTrait (own : String) (idx : Nat) (h : Cond.methodLink own idx yX3_setTrait ∈ lw_tbl ∨ ∃ host, Cond.methodLinkNest own idx yX3_setTrait host ∈ lw_tbl) : MLk own idx mX3_setTrait 3 := ⟨h, List.mem_of_getElem? (i := 83) (by decide +kernel), List.mem_of_getElem? (i := 397) (by decide +kernel), ⟨by decide +kernel, by decide +kernel⟩, by decide +kernel, by decide⟩
theorem mvX3_setTrait (own : String) (idx : Nat) (h : Cond.methodLink own idx yX3_setTrait ∈ lw_tbl ∨ ∃ host, Cond.methodLinkNest own idx yX3_setTrait host ∈ lw_tbl) : MV own idx mX3_setTrait 3 := ⟨mkX3_setTrait own idx h, List.mem_of_getElem? (i := 396) (by decide +kernel), List.mem_of_getElem? (i := 0) (by decide +kernel)⟩
theorem mkX3_weightOf (own : String) (idx : Nat) (h : Cond.methodLink own idx yX3_weightOf ∈ lw_tbl ∨ ∃ host, Cond.methodLinkNest own idx yX3_weightOf host ∈ lw_tbl) : MLk own idx mX3_weightOf 1 := ⟨h, List.mem_of_getElem? (i := 83) (by decide +kernel), List.mem_of_getElem? (i := 912) (by decide +kernel), ⟨by decide +kernel, by decide +kernel⟩, by decide +kernel, by decide⟩
theorem mvX3_weightOf (own : String) (idx : Nat) (h : Cond.methodLink own idx yX3_weightOf ∈ lw_tbl ∨ ∃ host, Cond.methodLinkNest own idx yX3_weightOf host ∈ lw_tbl) : MV own idx mX3_weightOf 1 := ⟨mkX3_weightOf own idx h, List.mem_of_getElem? (i := 910) (by decide +kernel), List.mem_of_getElem? (i := 911) (by decide +kernel)⟩
theorem mkX3_setWeight (own : String) (idx : Nat) (h : Cond.methodLink own idx yX3_setWeight ∈ lw_tbl ∨ ∃ host, Cond.methodLinkNest own idx yX3_setWeight host ∈ lw_tbl) : MLk own idx mX3_setWeight 2 := ⟨h, List.mem_of_getElem? (i := 83) (by decide +kernel), List.mem_of_getElem? (i := 477) (by decide +kernel), ⟨by decide +kernel, by decide +kernel⟩, by decide +kernel, by decide⟩
theorem mvX3_setWeight (own : String) (idx : Nat) (h : Cond.methodLink own idx yX3_setWeight ∈ lw_tbl ∨ ∃ host, Cond.methodLinkNest own idx yX3_setWeight host ∈ lw_tbl) : MV own idx mX3_setWeight 2 := ⟨mkX3_setWeight own idx h, List.mem_of_getElem? (i := 475) (by decide +kernel), List.mem_of_getElem? (i := 476) (by decide +kernel)⟩
theorem mkX3_ask (own : String) (idx : Nat) (h : Cond.methodLink own idx yX3_ask ∈ lw_tbl ∨ ∃ host, Cond.methodLinkNest own idx yX3_ask host ∈ lw_tbl) : MLk own idx mX3_ask 4 := ⟨h, List.mem_of_getElem? (i := 83) (by decide +kernel), List.mem_of_getElem? (i := 393) (by decide +kernel), ⟨by decide +kernel, by decide +kernel⟩, by decide +kernel, by decide⟩
theorem mvX3_ask (own : String) (idx : Nat) (h : Cond.methodLink own idx yX3_ask ∈ lw_tbl ∨ ∃ host, Cond.methodLinkNest own idx yX3_ask host ∈ lw_tbl) : MV own idx mX3_ask 4 := ⟨mkX3_ask own idx h, List.mem_of_getElem? (i := 391) (by decide +kernel), List.mem_of_getElem? (i := 392) (by decide +kernel)⟩
theorem mkX3_addSign (own : String) (idx : Nat) (h : Cond.methodLink own idx yX3_addSign ∈ lw_tbl ∨ ∃ host, Cond.methodLinkNest own idx yX3_addSign host ∈ lw_tbl) : MLk own idx mX3_addSign 5 := ⟨h, List.mem_of_getElem? (i := 83) (by decide +kernel), List.mem_of_getElem? (i := 382) (by decide +kernel), ⟨by decide +kernel, by decide +kernel⟩, by decide +kernel, by decide⟩
theorem mvX3_addSign (own : String) (idx : Nat) (h : Cond.methodLink own idx yX3_addSign ∈ lw_tbl ∨ ∃ host, Cond.methodLinkNest own idx yX3_addSign host ∈ lw_tbl) : MV own idx mX3_addSign 5 := ⟨mkX3_addSign own idx h, List.mem_of_getElem? (i := 380) (by decide +kernel), List.mem_of_getElem? (i := 381) (by decide +kernel)⟩
theorem mkX3_appendAsked (own : String) (idx : Nat) (h : Cond.methodLink own idx yX3_appendAsked ∈ lw_tbl ∨ ∃ host, Cond.methodLinkNest own idx yX3_appendAsked host ∈ lw_tbl) : MLk own idx mX3_appendAsked 0 := ⟨h, List.mem_of_getElem? (i := 83) (by decide +kernel), List.mem_of_getElem? (i := 401) (by decide +kernel), ⟨by decide +kernel, by decide +kernel⟩, by decide +kernel, by decide⟩
theorem mvX3_appendAsked (own : String) (idx : Nat) (h : Cond.methodLink own idx yX3_appendAsked ∈ lw_tbl ∨ ∃ host, Cond.methodLinkNest own idx yX3_appendAsked host ∈ lw_tbl) : MV own idx mX3_appendAsked 0 := ⟨mkX3_appendAsked own idx h, List.mem_of_getElem? (i := 400) (by decide +kernel), List.mem_of_getElem? (i := 1) (by decide +kernel)⟩
theorem mkX3_hasEqual (own : String) (idx : Nat) (h : Cond.methodLink own idx yX3_hasEqual ∈ lw_tbl ∨ ∃ host, Cond.methodLinkNest own idx yX3_hasEqual host ∈ lw_tbl) : MLk own idx mX3_hasEqual 1 := ⟨h, List.mem_of_getElem? (i := 83) (by decide +kernel), List.mem_of_getElem? (i := 405) (by decide +kernel), ⟨by decide +kernel, by decide +kernel⟩, by decide +kernel, by decide⟩
theorem mvX3_hasEqual (own : String) (idx : Nat) (h : Cond.methodLink own idx yX3_hasEqual ∈ lw_tbl ∨ ∃ host, Cond.methodLinkNest own idx yX3_hasEqual host ∈ lw_tbl) : MV own idx mX3_hasEqual 1 := ⟨mkX3_hasEqual own idx h, List.mem_of_getElem? (i := 404) (by decide +kernel), List.mem_of_getElem? (i := 2) (by decide +kernel)⟩
theorem mkX3_change (own : String) (idx : Nat) (h : Cond.methodLink own idx yX3_change ∈ lw_tbl ∨ ∃ host, Cond.methodLinkNest own idx yX3_change host ∈ lw_tbl) : MLk own idx mX3_change 3 := ⟨h, List.mem_of_getElem? (i := 83) (by decide +kernel), List.mem_of_getElem? (i := 436) (by decide +kernel), ⟨by decide +kernel, by decide +kernel⟩, by decide +kernel, by decide⟩
theorem mvX3_change (own : String) (idx : Nat) (h : Cond.methodLink own idx yX3_change ∈ lw_tbl ∨ ∃ host, Cond.methodLinkNest own idx yX3_change host ∈ lw_tbl) : MV own idx mX3_change 3 := ⟨mkX3_change own idx h, List.mem_of_getElem? (i := 434) (by decide +kernel), List.mem_of_getElem? (i := 435) (by decide +kernel)⟩
theorem mkX3_remove (own : String) (idx : Nat) (h : Cond.methodLink own idx yX3_remove ∈ lw_tbl ∨ ∃ host, Cond.methodLinkNest own idx yX3_remove host ∈ lw_tbl) : MLk own idx mX3_remove 1 := ⟨h, List.mem_of_getElem? (i := 83) (by decide +kernel), List.mem_of_getElem? (i := 469) (by decide +kernel), ⟨by decide +kernel, by decide +kernel⟩, by decide +kernel, by decide⟩
theorem mvX3_remove (own : String) (idx : Nat) (h : Cond.methodLink own idx yX3_remove ∈ lw_tbl ∨ ∃ host, Cond.methodLinkNest own idx yX3_remove host ∈ lw_tbl) : MV own idx mX3_remove 1 := ⟨mkX3_remove own idx h, List.mem_of_getElem? (i := 467) (by decide +kernel), List.mem_of_getElem? (i := 468) (by decide +kernel)⟩
theorem mkX3_addRandom (own : String) (idx : Nat) (h : Cond.methodLink own idx yX3_addRandom ∈ lw_tbl ∨ ∃ host, Cond.methodLinkNest own idx yX3_addRandom host ∈ lw_tbl) : MLk own idx mX3_addRandom 2 := ⟨h, List.mem_of_getElem? (i := 83) (by decide +kernel), List.mem_of_getElem? (i := 485) (by decide +kernel), ⟨by decide +kernel, by decide +kernel⟩, by decide +kernel, by decide⟩
theorem mvX3_addRandom (own : String) (idx : Nat) (h : Cond.methodLink own idx yX3_addRandom ∈ lw_tbl ∨ ∃ host, Cond.methodLinkNest own idx yX3_addRandom host ∈ lw_tbl) : MV own idx mX3_addRandom 2 := ⟨mkX3_addRandom own idx h, List.mem_of_getElem? (i := 483) (by decide +kernel), List.mem_of_getElem? (i := 484) (by decide +kernel)⟩
theorem mkX3_countOfSort (own : String) (idx : Nat) (h : Cond.methodLink own idx yX3_countOfSort ∈ lw_tbl ∨ ∃ host, Cond.methodLinkNest own idx yX3_countOfSort host ∈ lw_tbl) : MLk own idx mX3_countOfSort 1 := ⟨h, List.mem_of_getElem? (i := 83) (by decide +kernel), List.mem_of_getElem? (i := 568) (by decide +kernel), ⟨by decide +kernel, by decide +kernel⟩, by decide +kernel, by decide⟩
theorem mvX3_countOfSort (own : String) (idx : Nat) (h : Cond.methodLink own idx yX3_countOfSort ∈ lw_tbl ∨ ∃ host, Cond.methodLinkNest own idx yX3_countOfSort host ∈ lw_tbl) : MV own idx mX3_countOfSort 1 := ⟨mkX3_countOfSort own idx h, List.mem_of_getElem? (i := 566) (by decide +kernel), List.mem_of_getElem? (i := 567) (by decide +kernel)⟩
theorem mkX3_differingParts (own : String) (idx : Nat) (h : Cond.methodLink own idx yX3_differingParts ∈ lw_tbl ∨ ∃ host, Cond.methodLinkNest own idx yX3_differingParts host ∈ lw_tbl) : MLk own idx mX3_differingParts 2 := ⟨h, List.mem_of_getElem? (i := 83) (by decide +kernel), List.mem_of_getElem? (i := 409) (by decide +kernel), ⟨by decide +kernel, by decide +kernel⟩, by decide +kernel, by decide⟩
theorem mvX3_differingParts (own : String) (idx : Nat) (h : Cond.methodLink own idx yX3_differingParts ∈ lw_tbl ∨ ∃ host, Cond.methodLinkNest own idx yX3_differingParts host ∈ lw_tbl) : MV own idx mX3_differingParts 2 := ⟨mkX3_differingParts own idx h, List.mem_of_getElem? (i := 407) (by decide +kernel), List.mem_of_getElem? (i := 408) (by decide +kernel)⟩
theorem mkX3_gap (own : String) (idx : Nat) (h : Cond.methodLink own idx yX3_gap ∈ lw_tbl ∨ ∃ host, Cond.methodLinkNest own idx yX3_gap host ∈ lw_tbl) : MLk own idx mX3_gap 3 := ⟨h, List.mem_of_getElem? (i := 83) (by decide +kernel), List.mem_of_getElem? (i := 514) (by decide +kernel), ⟨by decide +kernel, by decide +kernel⟩, by decide +kernel, by decide⟩
theorem mvX3_gap (own : String) (idx : Nat) (h : Cond.methodLink own idx yX3_gap ∈ lw_tbl ∨ ∃ host, Cond.methodLinkNest own idx yX3_gap host ∈ lw_tbl) : MV own idx mX3_gap 3 := ⟨mkX3_gap own idx h, List.mem_of_getElem? (i := 512) (by decide +kernel), List.mem_of_getElem? (i := 513) (by decide +kernel)⟩
theorem mkX3_faceGap (own : String) (idx : Nat) (h : Cond.methodLink own idx yX3_faceGap ∈ lw_tbl ∨ ∃ host, Cond.methodLinkNest own idx yX3_faceGap host ∈ lw_tbl) : MLk own idx mX3_faceGap 2 := ⟨h, List.mem_of_getElem? (i := 83) (by decide +kernel), List.mem_of_getElem? (i := 527) (by decide +kernel), ⟨by decide +kernel, by decide +kernel⟩, by decide +kernel, by decide⟩
theorem msX3_faceGap (own : String) (idx : Nat) (h : Cond.methodLink own idx yX3_faceGap ∈ lw_tbl ∨ ∃ host, Cond.methodLinkNest own idx yX3_faceGap host ∈ lw_tbl) : MS own idx mX3_faceGap 2 := ⟨mkX3_faceGap own idx h, List.mem_of_getElem? (i := 526) (by decide +kernel)⟩
theorem mkX3_distance (own : String) (idx : Nat) (h : Cond.methodLink own idx yX3_distance ∈ lw_tbl ∨ ∃ host, Cond.methodLinkNest own idx yX3_distance host ∈ lw_tbl) : MLk own idx mX3_distance 2 := ⟨h, List.mem_of_getElem? (i := 83) (by decide +kernel), List.mem_of_getElem? (i := 510) (by decide +kernel), ⟨by decide +kernel, by decide +kernel⟩, by decide +kernel, by decide⟩
theorem mvX3_distance (own : String) (idx : Nat) (h : Cond.methodLink own idx yX3_distance ∈ lw_tbl ∨ ∃ host, Cond.methodLinkNest own idx yX3_distance host ∈ lw_tbl) : MV own idx mX3_distance 2 := ⟨mkX3_distance own idx h, List.mem_of_getElem? (i := 508) (by decide +kernel), List.mem_of_getElem? (i := 509) (by decide +kernel)⟩
theorem mkX3_matches (own : String) (idx : Nat) (h : Cond.methodLink own idx yX3_matches ∈ lw_tbl ∨ ∃ host, Cond.methodLinkNest own idx yX3_matches host ∈ lw_tbl) : MLk own idx mX3_matches 0 := ⟨h, List.mem_of_getElem? (i := 83) (by decide +kernel), List.mem_of_getElem? (i := 538) (by decide +kernel), ⟨by decide +kernel, by decide +kernel⟩, by decide +kernel, by decide⟩
theorem mvX3_matches (own : String) (idx : Nat) (h : Cond.methodLink own idx yX3_matches ∈ lw_tbl ∨ ∃ host, Cond.methodLinkNest own idx yX3_matches host ∈ lw_tbl) : MV own idx mX3_matches 0 := ⟨mkX3_matches own idx h, List.mem_of_getElem? (i := 536) (by decide +kernel), List.mem_of_getElem? (i := 537) (by decide +kernel)⟩
theorem mkX3_matchesAsked (own : String) (idx : Nat) (h : Cond.methodLink own idx yX3_matchesAsked ∈ lw_tbl ∨ ∃ host, Cond.methodLinkNest own idx yX3_matchesAsked host ∈ lw_tbl) : MLk own idx mX3_matchesAsked 1 := ⟨h, List.mem_of_getElem? (i := 83) (by decide +kernel), List.mem_of_getElem? (i := 542) (by decide +kernel), ⟨by decide +kernel, by decide +kernel⟩, by decide +kernel, by decide⟩
theorem mvX3_matchesAsked (own : String) (idx : Nat) (h : Cond.methodLink own idx yX3_matchesAsked ∈ lw_tbl ∨ ∃ host, Cond.methodLinkNest own idx yX3_matchesAsked host ∈ lw_tbl) : MV own idx mX3_matchesAsked 1 := ⟨mkX3_matchesAsked own idx h, List.mem_of_getElem? (i := 541) (by decide +kernel), List.mem_of_getElem? (i := 6) (by decide +kernel)⟩
theorem mkX3_neighbours (own : String) (idx : Nat) (h : Cond.methodLink own idx yX3_neighbours ∈ lw_tbl ∨ ∃ host, Cond.methodLinkNest own idx yX3_neighbours host ∈ lw_tbl) : MLk own idx mX3_neighbours 2 := ⟨h, List.mem_of_getElem? (i := 83) (by decide +kernel), List.mem_of_getElem? (i := 550) (by decide +kernel), ⟨by decide +kernel, by decide +kernel⟩, by decide +kernel, by decide⟩
theorem mvX3_neighbours (own : String) (idx : Nat) (h : Cond.methodLink own idx yX3_neighbours ∈ lw_tbl ∨ ∃ host, Cond.methodLinkNest own idx yX3_neighbours host ∈ lw_tbl) : MV own idx mX3_neighbours 2 := ⟨mkX3_neighbours own idx h, List.mem_of_getElem? (i := 548) (by decide +kernel), List.mem_of_getElem? (i := 549) (by decide +kernel)⟩
theorem mkX3_closest (own : String) (idx : Nat) (h : Cond.methodLink own idx yX3_closest ∈ lw_tbl ∨ ∃ host, Cond.methodLinkNest own idx yX3_closest host ∈ lw_tbl) : MLk own idx mX3_closest 0 := ⟨h, List.mem_of_getElem? (i := 83) (by decide +kernel), List.mem_of_getElem? (i := 559) (by decide +kernel), ⟨by decide +kernel, by decide +kernel⟩, by decide +kernel, by decide⟩
theorem mvX3_closest (own : String) (idx : Nat) (h : Cond.methodLink own idx yX3_closest ∈ lw_tbl ∨ ∃ host, Cond.methodLinkNest own idx yX3_closest host ∈ lw_tbl) : MV own idx mX3_closest 0 := ⟨mkX3_closest own idx h, List.mem_of_getElem? (i := 557) (by decide +kernel), List.mem_of_getElem? (i := 558) (by decide +kernel)⟩
theorem mkX3_extremePair (own : String) (idx : Nat) (h : Cond.methodLink own idx yX3_extremePair ∈ lw_tbl ∨ ∃ host, Cond.methodLinkNest own idx yX3_extremePair host ∈ lw_tbl) : MLk own idx mX3_extremePair 1 := ⟨h, List.mem_of_getElem? (i := 83) (by decide +kernel), List.mem_of_getElem? (i := 631) (by decide +kernel), ⟨by decide +kernel, by decide +kernel⟩, by decide +kernel, by decide⟩
theorem mvX3_extremePair (own : String) (idx : Nat) (h : Cond.methodLink own idx yX3_extremePair ∈ lw_tbl ∨ ∃ host, Cond.methodLinkNest own idx yX3_extremePair host ∈ lw_tbl) : MV own idx mX3_extremePair 1 := ⟨mkX3_extremePair own idx h, List.mem_of_getElem? (i := 629) (by decide +kernel), List.mem_of_getElem? (i := 630) (by decide +kernel)⟩
theorem mkX4_init (own : String) (idx : Nat) (h : Cond.methodLink own idx yX4_init ∈ lw_tbl ∨ ∃ host, Cond.methodLinkNest own idx yX4_init host ∈ lw_tbl) : MLk own idx mX4_init 0 := ⟨h, List.mem_of_getElem? (i := 87) (by decide +kernel), List.mem_of_getElem? (i := 218) (by decide +kernel), ⟨by decide +kernel, by decide +kernel⟩, by decide +kernel, by decide⟩
theorem miX4_init (own : String) (idx : Nat) (h : Cond.methodLink own idx yX4_init ∈ lw_tbl ∨ ∃ host, Cond.methodLinkNest own idx yX4_init host ∈ lw_tbl) : MI own idx mX4_init 0 := ⟨mkX4_init own idx h, rfl, rfl, List.mem_of_getElem? (i := 217) (by decide +kernel)⟩
theorem mkX4_interpret (own : String) (idx : Nat) (h : Cond.methodLink own idx yX4_interpret ∈ lw_tbl ∨ ∃ host, Cond.methodLinkNest own idx yX4_interpret host ∈ lw_tbl) : MLk own idx mX4_interpret 2 := ⟨h, List.mem_of_getElem? (i := 87) (by decide +kernel), List.mem_of_getElem? (i := 699) (by decide +kernel), ⟨by decide +kernel, by decide +kernel⟩, by decide +kernel, by decide⟩
theorem mvX4_interpret (own : String) (idx : Nat) (h : Cond.methodLink own idx yX4_interpret ∈ lw_tbl ∨ ∃ host, Cond.methodLinkNest own idx yX4_interpret host ∈ lw_tbl) : MV own idx mX4_interpret 2 := ⟨mkX4_interpret own idx h, List.mem_of_getElem? (i := 697) (by decide +kernel), List.mem_of_getElem? (i := 698) (by decide +kernel)⟩
theorem mkX4_interpretWord (own : String) (idx : Nat) (h : Cond.methodLink own idx yX4_interpretWord ∈ lw_tbl ∨ ∃ host, Cond.methodLinkNest own idx yX4_interpretWord host ∈ lw_tbl) : MLk own idx mX4_interpretWord 3 := ⟨h, List.mem_of_getElem? (i := 87) (by decide +kernel), List.mem_of_getElem? (i := 710) (by decide +kernel), ⟨by decide +kernel, by decide +kernel⟩, by decide +kernel, by decide⟩
theorem mvX4_interpretWord (own : String) (idx : Nat) (h : Cond.methodLink own idx yX4_interpretWord ∈ lw_tbl ∨ ∃ host, Cond.methodLinkNest own idx yX4_interpretWord host ∈ lw_tbl) : MV own idx mX4_interpretWord 3 := ⟨mkX4_interpretWord own idx h, List.mem_of_getElem? (i := 709) (by decide +kernel), List.mem_of_getElem? (i := 10) (by decide +kernel)⟩
theorem mkX4_thingAt (own : String) (idx : Nat) (h : Cond.methodLink own idx yX4_thingAt ∈ lw_tbl ∨ ∃ host, Cond.methodLinkNest own idx yX4_thingAt host ∈ lw_tbl) : MLk own idx mX4_thingAt 1 := ⟨h, List.mem_of_getElem? (i := 87) (by decide +kernel), List.mem_of_getElem? (i := 724) (by decide +kernel), ⟨by decide +kernel, by decide +kernel⟩, by decide +kernel, by decide⟩
theorem mvX4_thingAt (own : String) (idx : Nat) (h : Cond.methodLink own idx yX4_thingAt ∈ lw_tbl ∨ ∃ host, Cond.methodLinkNest own idx yX4_thingAt host ∈ lw_tbl) : MV own idx mX4_thingAt 1 := ⟨mkX4_thingAt own idx h, List.mem_of_getElem? (i := 722) (by decide +kernel), List.mem_of_getElem? (i := 723) (by decide +kernel)⟩
theorem mkX4_setThing (own : String) (idx : Nat) (h : Cond.methodLink own idx yX4_setThing ∈ lw_tbl ∨ ∃ host, Cond.methodLinkNest own idx yX4_setThing host ∈ lw_tbl) : MLk own idx mX4_setThing 2 := ⟨h, List.mem_of_getElem? (i := 87) (by decide +kernel), List.mem_of_getElem? (i := 717) (by decide +kernel), ⟨by decide +kernel, by decide +kernel⟩, by decide +kernel, by decide⟩
theorem mvX4_setThing (own : String) (idx : Nat) (h : Cond.methodLink own idx yX4_setThing ∈ lw_tbl ∨ ∃ host, Cond.methodLinkNest own idx yX4_setThing host ∈ lw_tbl) : MV own idx mX4_setThing 2 := ⟨mkX4_setThing own idx h, List.mem_of_getElem? (i := 716) (by decide +kernel), List.mem_of_getElem? (i := 11) (by decide +kernel)⟩
theorem mkX5_init (own : String) (idx : Nat) (h : Cond.methodLink own idx yX5_init ∈ lw_tbl ∨ ∃ host, Cond.methodLinkNest own idx yX5_init host ∈ lw_tbl) : MLk own idx mX5_init 0 := ⟨h, List.mem_of_getElem? (i := 85) (by decide +kernel), List.mem_of_getElem? (i := 168) (by decide +kernel), ⟨by decide +kernel, by decide +kernel⟩, by decide +kernel, by decide⟩
theorem miX5_init (own : String) (idx : Nat) (h : Cond.methodLink own idx yX5_init ∈ lw_tbl ∨ ∃ host, Cond.methodLinkNest own idx yX5_init host ∈ lw_tbl) : MI own idx mX5_init 0 := ⟨mkX5_init own idx h, rfl, rfl, List.mem_of_getElem? (i := 167) (by decide +kernel)⟩
theorem mkX5_stage (own : String) (idx : Nat) (h : Cond.methodLink own idx yX5_stage ∈ lw_tbl ∨ ∃ host, Cond.methodLinkNest own idx yX5_stage host ∈ lw_tbl) : MLk own idx mX5_stage 1 := ⟨h, List.mem_of_getElem? (i := 85) (by decide +kernel), List.mem_of_getElem? (i := 361) (by decide +kernel), ⟨by decide +kernel, by decide +kernel⟩, by decide +kernel, by decide⟩
theorem mvX5_stage (own : String) (idx : Nat) (h : Cond.methodLink own idx yX5_stage ∈ lw_tbl ∨ ∃ host, Cond.methodLinkNest own idx yX5_stage host ∈ lw_tbl) : MV own idx mX5_stage 1 := ⟨mkX5_stage own idx h, List.mem_of_getElem? (i := 359) (by decide +kernel), List.mem_of_getElem? (i := 360) (by decide +kernel)⟩
theorem mkX5_unstage (own : String) (idx : Nat) (h : Cond.methodLink own idx yX5_unstage ∈ lw_tbl ∨ ∃ host, Cond.methodLinkNest own idx yX5_unstage host ∈ lw_tbl) : MLk own idx mX5_unstage 1 := ⟨h, List.mem_of_getElem? (i := 85) (by decide +kernel), List.mem_of_getElem? (i := 892) (by decide +kernel), ⟨by decide +kernel, by decide +kernel⟩, by decide +kernel, by decide⟩
theorem mvX5_unstage (own : String) (idx : Nat) (h : Cond.methodLink own idx yX5_unstage ∈ lw_tbl ∨ ∃ host, Cond.methodLinkNest own idx yX5_unstage host ∈ lw_tbl) : MV own idx mX5_unstage 1 := ⟨mkX5_unstage own idx h, List.mem_of_getElem? (i := 890) (by decide +kernel), List.mem_of_getElem? (i := 891) (by decide +kernel)⟩
theorem mkX5_keepStaged (own : String) (idx : Nat) (h : Cond.methodLink own idx yX5_keepStaged ∈ lw_tbl ∨ ∃ host, Cond.methodLinkNest own idx yX5_keepStaged host ∈ lw_tbl) : MLk own idx mX5_keepStaged 0 := ⟨h, List.mem_of_getElem? (i := 85) (by decide +kernel), List.mem_of_getElem? (i := 421) (by decide +kernel), ⟨by decide +kernel, by decide +kernel⟩, by decide +kernel, by decide⟩
theorem mvX5_keepStaged (own : String) (idx : Nat) (h : Cond.methodLink own idx yX5_keepStaged ∈ lw_tbl ∨ ∃ host, Cond.methodLinkNest own idx yX5_keepStaged host ∈ lw_tbl) : MV own idx mX5_keepStaged 0 := ⟨mkX5_keepStaged own idx h, List.mem_of_getElem? (i := 419) (by decide +kernel), List.mem_of_getElem? (i := 420) (by decide +kernel)⟩
theorem mkX5_restore (own : String) (idx : Nat) (h : Cond.methodLink own idx yX5_restore ∈ lw_tbl ∨ ∃ host, Cond.methodLinkNest own idx yX5_restore host ∈ lw_tbl) : MLk own idx mX5_restore 1 := ⟨h, List.mem_of_getElem? (i := 85) (by decide +kernel), List.mem_of_getElem? (i := 900) (by decide +kernel), ⟨by decide +kernel, by decide +kernel⟩, by decide +kernel, by decide⟩
theorem mvX5_restore (own : String) (idx : Nat) (h : Cond.methodLink own idx yX5_restore ∈ lw_tbl ∨ ∃ host, Cond.methodLinkNest own idx yX5_restore host ∈ lw_tbl) : MV own idx mX5_restore 1 := ⟨mkX5_restore own idx h, List.mem_of_getElem? (i := 898) (by decide +kernel), List.mem_of_getElem? (i := 899) (by decide +kernel)⟩
theorem mkX6_init (own : String) (idx : Nat) (h : Cond.methodLink own idx yX6_init ∈ lw_tbl ∨ ∃ host, Cond.methodLinkNest own idx yX6_init host ∈ lw_tbl) : MLk own idx mX6_init 0 := ⟨h, List.mem_of_getElem? (i := 89) (by decide +kernel), List.mem_of_getElem? (i := 268) (by decide +kernel), ⟨by decide +kernel, by decide +kernel⟩, by decide +kernel, by decide⟩
theorem miX6_init (own : String) (idx : Nat) (h : Cond.methodLink own idx yX6_init ∈ lw_tbl ∨ ∃ host, Cond.methodLinkNest own idx yX6_init host ∈ lw_tbl) : MI own idx mX6_init 0 := ⟨mkX6_init own idx h, rfl, rfl, List.mem_of_getElem? (i := 267) (by decide +kernel)⟩
theorem mkX6_follow (own : String) (idx : Nat) (h : Cond.methodLink own idx yX6_follow ∈ lw_tbl ∨ ∃ host, Cond.methodLinkNest own idx yX6_follow host ∈ lw_tbl) : MLk own idx mX6_follow 1 := ⟨h, List.mem_of_getElem? (i := 89) (by decide +kernel), List.mem_of_getElem? (i := 755) (by decide +kernel), ⟨by decide +kernel, by decide +kernel⟩, by decide +kernel, by decide⟩
theorem mvX6_follow (own : String) (idx : Nat) (h : Cond.methodLink own idx yX6_follow ∈ lw_tbl ∨ ∃ host, Cond.methodLinkNest own idx yX6_follow host ∈ lw_tbl) : MV own idx mX6_follow 1 := ⟨mkX6_follow own idx h, List.mem_of_getElem? (i := 753) (by decide +kernel), List.mem_of_getElem? (i := 754) (by decide +kernel)⟩
theorem mkX6_add (own : String) (idx : Nat) (h : Cond.methodLink own idx yX6_add ∈ lw_tbl ∨ ∃ host, Cond.methodLinkNest own idx yX6_add host ∈ lw_tbl) : MLk own idx mX6_add 1 := ⟨h, List.mem_of_getElem? (i := 89) (by decide +kernel), List.mem_of_getElem? (i := 760) (by decide +kernel), ⟨by decide +kernel, by decide +kernel⟩, by decide +kernel, by decide⟩
theorem mvX6_add (own : String) (idx : Nat) (h : Cond.methodLink own idx yX6_add ∈ lw_tbl ∨ ∃ host, Cond.methodLinkNest own idx yX6_add host ∈ lw_tbl) : MV own idx mX6_add 1 := ⟨mkX6_add own idx h, List.mem_of_getElem? (i := 759) (by decide +kernel), List.mem_of_getElem? (i := 14) (by decide +kernel)⟩
theorem mkX6_lengthWith (own : String) (idx : Nat) (h : Cond.methodLink own idx yX6_lengthWith ∈ lw_tbl ∨ ∃ host, Cond.methodLinkNest own idx yX6_lengthWith host ∈ lw_tbl) : MLk own idx mX6_lengthWith 1 := ⟨h, List.mem_of_getElem? (i := 89) (by decide +kernel), List.mem_of_getElem? (i := 770) (by decide +kernel), ⟨by decide +kernel, by decide +kernel⟩, by decide +kernel, by decide⟩
theorem mvX6_lengthWith (own : String) (idx : Nat) (h : Cond.methodLink own idx yX6_lengthWith ∈ lw_tbl ∨ ∃ host, Cond.methodLinkNest own idx yX6_lengthWith host ∈ lw_tbl) : MV own idx mX6_lengthWith 1 := ⟨mkX6_lengthWith own idx h, List.mem_of_getElem? (i := 768) (by decide +kernel), List.mem_of_getElem? (i := 769) (by decide +kernel)⟩
theorem mkX6_setOfSpots (own : String) (idx : Nat) (h : Cond.methodLink own idx yX6_setOfSpots ∈ lw_tbl ∨ ∃ host, Cond.methodLinkNest own idx yX6_setOfSpots host ∈ lw_tbl) : MLk own idx mX6_setOfSpots 0 := ⟨h, List.mem_of_getElem? (i := 89) (by decide +kernel), List.mem_of_getElem? (i := 775) (by decide +kernel), ⟨by decide +kernel, by decide +kernel⟩, by decide +kernel, by decide⟩
theorem mvX6_setOfSpots (own : String) (idx : Nat) (h : Cond.methodLink own idx yX6_setOfSpots ∈ lw_tbl ∨ ∃ host, Cond.methodLinkNest own idx yX6_setOfSpots host ∈ lw_tbl) : MV own idx mX6_setOfSpots 0 := ⟨mkX6_setOfSpots own idx h, List.mem_of_getElem? (i := 773) (by decide +kernel), List.mem_of_getElem? (i := 774) (by decide +kernel)⟩
theorem mkX7_init (own : String) (idx : Nat) (h : Cond.methodLink own idx yX7_init ∈ lw_tbl ∨ ∃ host, Cond.methodLinkNest own idx yX7_init host ∈ lw_tbl) : MLk own idx mX7_init 0 := ⟨h, List.mem_of_getElem? (i := 86) (by decide +kernel), List.mem_of_getElem? (i := 188) (by decide +kernel), ⟨by decide +kernel, by decide +kernel⟩, by decide +kernel, by decide⟩
theorem miX7_init (own : String) (idx : Nat) (h : Cond.methodLink own idx yX7_init ∈ lw_tbl ∨ ∃ host, Cond.methodLinkNest own idx yX7_init host ∈ lw_tbl) : MI own idx mX7_init 0 := ⟨mkX7_init own idx h, rfl, rfl, List.mem_of_getElem? (i := 187) (by decide +kernel)⟩
theorem mkX7_append (own : String) (idx : Nat) (h : Cond.methodLink own idx yX7_append ∈ lw_tbl ∨ ∃ host, Cond.methodLinkNest own idx yX7_append host ∈ lw_tbl) : MLk own idx mX7_append 1 := ⟨h, List.mem_of_getElem? (i := 86) (by decide +kernel), List.mem_of_getElem? (i := 826) (by decide +kernel), ⟨by decide +kernel, by decide +kernel⟩, by decide +kernel, by decide⟩
theorem mvX7_append (own : String) (idx : Nat) (h : Cond.methodLink own idx yX7_append ∈ lw_tbl ∨ ∃ host, Cond.methodLinkNest own idx yX7_append host ∈ lw_tbl) : MV own idx mX7_append 1 := ⟨mkX7_append own idx h, List.mem_of_getElem? (i := 824) (by decide +kernel), List.mem_of_getElem? (i := 825) (by decide +kernel)⟩
theorem mkX7_empty (own : String) (idx : Nat) (h : Cond.methodLink own idx yX7_empty ∈ lw_tbl ∨ ∃ host, Cond.methodLinkNest own idx yX7_empty host ∈ lw_tbl) : MLk own idx mX7_empty 0 := ⟨h, List.mem_of_getElem? (i := 86) (by decide +kernel), List.mem_of_getElem? (i := 835) (by decide +kernel), ⟨by decide +kernel, by decide +kernel⟩, by decide +kernel, by decide⟩
theorem mvX7_empty (own : String) (idx : Nat) (h : Cond.methodLink own idx yX7_empty ∈ lw_tbl ∨ ∃ host, Cond.methodLinkNest own idx yX7_empty host ∈ lw_tbl) : MV own idx mX7_empty 0 := ⟨mkX7_empty own idx h, List.mem_of_getElem? (i := 833) (by decide +kernel), List.mem_of_getElem? (i := 834) (by decide +kernel)⟩
theorem mkX7_letter (own : String) (idx : Nat) (h : Cond.methodLink own idx yX7_letter ∈ lw_tbl ∨ ∃ host, Cond.methodLinkNest own idx yX7_letter host ∈ lw_tbl) : MLk own idx mX7_letter 1 := ⟨h, List.mem_of_getElem? (i := 86) (by decide +kernel), List.mem_of_getElem? (i := 882) (by decide +kernel), ⟨by decide +kernel, by decide +kernel⟩, by decide +kernel, by decide⟩
theorem mvX7_letter (own : String) (idx : Nat) (h : Cond.methodLink own idx yX7_letter ∈ lw_tbl ∨ ∃ host, Cond.methodLinkNest own idx yX7_letter host ∈ lw_tbl) : MV own idx mX7_letter 1 := ⟨mkX7_letter own idx h, List.mem_of_getElem? (i := 880) (by decide +kernel), List.mem_of_getElem? (i := 881) (by decide +kernel)⟩
theorem mkX7_numbers (own : String) (idx : Nat) (h : Cond.methodLink own idx yX7_numbers ∈ lw_tbl ∨ ∃ host, Cond.methodLinkNest own idx yX7_numbers host ∈ lw_tbl) : MLk own idx mX7_numbers 1 := ⟨h, List.mem_of_getElem? (i := 86) (by decide +kernel), List.mem_of_getElem? (i := 878) (by decide +kernel), ⟨by decide +kernel, by decide +kernel⟩, by decide +kernel, by decide⟩
theorem mvX7_numbers (own : String) (idx : Nat) (h : Cond.methodLink own idx yX7_numbers ∈ lw_tbl ∨ ∃ host, Cond.methodLinkNest own idx yX7_numbers host ∈ lw_tbl) : MV own idx mX7_numbers 1 := ⟨mkX7_numbers own idx h, List.mem_of_getElem? (i := 876) (by decide +kernel), List.mem_of_getElem? (i := 877) (by decide +kernel)⟩
theorem mkX7_number (own : String) (idx : Nat) (h : Cond.methodLink own idx yX7_number ∈ lw_tbl ∨ ∃ host, Cond.methodLinkNest own idx yX7_number host ∈ lw_tbl) : MLk own idx mX7_number 2 := ⟨h, List.mem_of_getElem? (i := 86) (by decide +kernel), List.mem_of_getElem? (i := 874) (by decide +kernel), ⟨by decide +kernel, by decide +kernel⟩, by decide +kernel, by decide⟩
theorem mvX7_number (own : String) (idx : Nat) (h : Cond.methodLink own idx yX7_number ∈ lw_tbl ∨ ∃ host, Cond.methodLinkNest own idx yX7_number host ∈ lw_tbl) : MV own idx mX7_number 2 := ⟨mkX7_number own idx h, List.mem_of_getElem? (i := 872) (by decide +kernel), List.mem_of_getElem? (i := 873) (by decide +kernel)⟩
theorem mkX7_parse (own : String) (idx : Nat) (h : Cond.methodLink own idx yX7_parse ∈ lw_tbl ∨ ∃ host, Cond.methodLinkNest own idx yX7_parse host ∈ lw_tbl) : MLk own idx mX7_parse 0 := ⟨h, List.mem_of_getElem? (i := 86) (by decide +kernel), List.mem_of_getElem? (i := 843) (by decide +kernel), ⟨by decide +kernel, by decide +kernel⟩, by decide +kernel, by decide⟩
theorem mvX7_parse (own : String) (idx : Nat) (h : Cond.methodLink own idx yX7_parse ∈ lw_tbl ∨ ∃ host, Cond.methodLinkNest own idx yX7_parse host ∈ lw_tbl) : MV own idx mX7_parse 0 := ⟨mkX7_parse own idx h, List.mem_of_getElem? (i := 841) (by decide +kernel), List.mem_of_getElem? (i := 842) (by decide +kernel)⟩
theorem mkX7_skipBlanks (own : String) (idx : Nat) (h : Cond.methodLink own idx yX7_skipBlanks ∈ lw_tbl ∨ ∃ host, Cond.methodLinkNest own idx yX7_skipBlanks host ∈ lw_tbl) : MLk own idx mX7_skipBlanks 0 := ⟨h, List.mem_of_getElem? (i := 86) (by decide +kernel), List.mem_of_getElem? (i := 847) (by decide +kernel), ⟨by decide +kernel, by decide +kernel⟩, by decide +kernel, by decide⟩
theorem mvX7_skipBlanks (own : String) (idx : Nat) (h : Cond.methodLink own idx yX7_skipBlanks ∈ lw_tbl ∨ ∃ host, Cond.methodLinkNest own idx yX7_skipBlanks host ∈ lw_tbl) : MV own idx mX7_skipBlanks 0 := ⟨mkX7_skipBlanks own idx h, List.mem_of_getElem? (i := 846) (by decide +kernel), List.mem_of_getElem? (i := 18) (by decide +kernel)⟩
theorem mkX7_current (own : String) (idx : Nat) (h : Cond.methodLink own idx yX7_current ∈ lw_tbl ∨ ∃ host, Cond.methodLinkNest own idx yX7_current host ∈ lw_tbl) : MLk own idx mX7_current 0 := ⟨h, List.mem_of_getElem? (i := 86) (by decide +kernel), List.mem_of_getElem? (i := 855) (by decide +kernel), ⟨by decide +kernel, by decide +kernel⟩, by decide +kernel, by decide⟩
theorem mvX7_current (own : String) (idx : Nat) (h : Cond.methodLink own idx yX7_current ∈ lw_tbl ∨ ∃ host, Cond.methodLinkNest own idx yX7_current host ∈ lw_tbl) : MV own idx mX7_current 0 := ⟨mkX7_current own idx h, List.mem_of_getElem? (i := 854) (by decide +kernel), List.mem_of_getElem? (i := 20) (by decide +kernel)⟩
theorem mkX7_isAtDigit (own : String) (idx : Nat) (h : Cond.methodLink own idx yX7_isAtDigit ∈ lw_tbl ∨ ∃ host, Cond.methodLinkNest own idx yX7_isAtDigit host ∈ lw_tbl) : MLk own idx mX7_isAtDigit 0 := ⟨h, List.mem_of_getElem? (i := 86) (by decide +kernel), List.mem_of_getElem? (i := 862) (by decide +kernel), ⟨by decide +kernel, by decide +kernel⟩, by decide +kernel, by decide⟩
theorem mvX7_isAtDigit (own : String) (idx : Nat) (h : Cond.methodLink own idx yX7_isAtDigit ∈ lw_tbl ∨ ∃ host, Cond.methodLinkNest own idx yX7_isAtDigit host ∈ lw_tbl) : MV own idx mX7_isAtDigit 0 := ⟨mkX7_isAtDigit own idx h, List.mem_of_getElem? (i := 861) (by decide +kernel), List.mem_of_getElem? (i := 21) (by decide +kernel)⟩
theorem mkX7_parseOrder (own : String) (idx : Nat) (h : Cond.methodLink own idx yX7_parseOrder ∈ lw_tbl ∨ ∃ host, Cond.methodLinkNest own idx yX7_parseOrder host ∈ lw_tbl) : MLk own idx mX7_parseOrder 1 := ⟨h, List.mem_of_getElem? (i := 86) (by decide +kernel), List.mem_of_getElem? (i := 851) (by decide +kernel), ⟨by decide +kernel, by decide +kernel⟩, by decide +kernel, by decide⟩
theorem mvX7_parseOrder (own : String) (idx : Nat) (h : Cond.methodLink own idx yX7_parseOrder ∈ lw_tbl ∨ ∃ host, Cond.methodLinkNest own idx yX7_parseOrder host ∈ lw_tbl) : MV own idx mX7_parseOrder 1 := ⟨mkX7_parseOrder own idx h, List.mem_of_getElem? (i := 850) (by decide +kernel), List.mem_of_getElem? (i := 19) (by decide +kernel)⟩
theorem mkX7_parseNumber (own : String) (idx : Nat) (h : Cond.methodLink own idx yX7_parseNumber ∈ lw_tbl ∨ ∃ host, Cond.methodLinkNest own idx yX7_parseNumber host ∈ lw_tbl) : MLk own idx mX7_parseNumber 2 := ⟨h, List.mem_of_getElem? (i := 86) (by decide +kernel), List.mem_of_getElem? (i := 866) (by decide +kernel), ⟨by decide +kernel, by decide +kernel⟩, by decide +kernel, by decide⟩
theorem mvX7_parseNumber (own : String) (idx : Nat) (h : Cond.methodLink own idx yX7_parseNumber ∈ lw_tbl ∨ ∃ host, Cond.methodLinkNest own idx yX7_parseNumber host ∈ lw_tbl) : MV own idx mX7_parseNumber 2 := ⟨mkX7_parseNumber own idx h, List.mem_of_getElem? (i := 865) (by decide +kernel), List.mem_of_getElem? (i := 22) (by decide +kernel)⟩
theorem mkX7_mostNumbers (own : String) (idx : Nat) (h : Cond.methodLink own idx yX7_mostNumbers ∈ lw_tbl ∨ ∃ host, Cond.methodLinkNest own idx yX7_mostNumbers host ∈ lw_tbl) : MLk own idx mX7_mostNumbers 1 := ⟨h, List.mem_of_getElem? (i := 86) (by decide +kernel), List.mem_of_getElem? (i := 858) (by decide +kernel), ⟨by decide +kernel, by decide +kernel⟩, by decide +kernel, by decide⟩
theorem msX7_mostNumbers (own : String) (idx : Nat) (h : Cond.methodLink own idx yX7_mostNumbers ∈ lw_tbl ∨ ∃ host, Cond.methodLinkNest own idx yX7_mostNumbers host ∈ lw_tbl) : MS own idx mX7_mostNumbers 1 := ⟨mkX7_mostNumbers own idx h, List.mem_of_getElem? (i := 857) (by decide +kernel)⟩
theorem mkX8_init (own : String) (idx : Nat) (h : Cond.methodLink own idx yX8_init ∈ lw_tbl ∨ ∃ host, Cond.methodLinkNest own idx yX8_init host ∈ lw_tbl) : MLk own idx mX8_init 0 := ⟨h, List.mem_of_getElem? (i := 84) (by decide +kernel), List.mem_of_getElem? (i := 136) (by decide +kernel), ⟨by decide +kernel, by decide +kernel⟩, by decide +kernel, by decide⟩
theorem miX8_init (own : String) (idx : Nat) (h : Cond.methodLink own idx yX8_init ∈ lw_tbl ∨ ∃ host, Cond.methodLinkNest own idx yX8_init host ∈ lw_tbl) : MI own idx mX8_init 0 := ⟨mkX8_init own idx h, rfl, rfl, List.mem_of_getElem? (i := 135) (by decide +kernel)⟩
theorem mkX8_copyFrom (own : String) (idx : Nat) (h : Cond.methodLink own idx yX8_copyFrom ∈ lw_tbl ∨ ∃ host, Cond.methodLinkNest own idx yX8_copyFrom host ∈ lw_tbl) : MLk own idx mX8_copyFrom 1 := ⟨h, List.mem_of_getElem? (i := 84) (by decide +kernel), List.mem_of_getElem? (i := 376) (by decide +kernel), ⟨by decide +kernel, by decide +kernel⟩, by decide +kernel, by decide⟩
theorem mvX8_copyFrom (own : String) (idx : Nat) (h : Cond.methodLink own idx yX8_copyFrom ∈ lw_tbl ∨ ∃ host, Cond.methodLinkNest own idx yX8_copyFrom host ∈ lw_tbl) : MV own idx mX8_copyFrom 1 := ⟨mkX8_copyFrom own idx h, List.mem_of_getElem? (i := 374) (by decide +kernel), List.mem_of_getElem? (i := 375) (by decide +kernel)⟩
theorem mkX8_holds (own : String) (idx : Nat) (h : Cond.methodLink own idx yX8_holds ∈ lw_tbl ∨ ∃ host, Cond.methodLinkNest own idx yX8_holds host ∈ lw_tbl) : MLk own idx mX8_holds 1 := ⟨h, List.mem_of_getElem? (i := 84) (by decide +kernel), List.mem_of_getElem? (i := 661) (by decide +kernel), ⟨by decide +kernel, by decide +kernel⟩, by decide +kernel, by decide⟩
theorem mvX8_holds (own : String) (idx : Nat) (h : Cond.methodLink own idx yX8_holds ∈ lw_tbl ∨ ∃ host, Cond.methodLinkNest own idx yX8_holds host ∈ lw_tbl) : MV own idx mX8_holds 1 := ⟨mkX8_holds own idx h, List.mem_of_getElem? (i := 659) (by decide +kernel), List.mem_of_getElem? (i := 660) (by decide +kernel)⟩
theorem mkX8_signIn (own : String) (idx : Nat) (h : Cond.methodLink own idx yX8_signIn ∈ lw_tbl ∨ ∃ host, Cond.methodLinkNest own idx yX8_signIn host ∈ lw_tbl) : MLk own idx mX8_signIn 1 := ⟨h, List.mem_of_getElem? (i := 84) (by decide +kernel), List.mem_of_getElem? (i := 457) (by decide +kernel), ⟨by decide +kernel, by decide +kernel⟩, by decide +kernel, by decide⟩
theorem mvX8_signIn (own : String) (idx : Nat) (h : Cond.methodLink own idx yX8_signIn ∈ lw_tbl ∨ ∃ host, Cond.methodLinkNest own idx yX8_signIn host ∈ lw_tbl) : MV own idx mX8_signIn 1 := ⟨mkX8_signIn own idx h, List.mem_of_getElem? (i := 455) (by decide +kernel), List.mem_of_getElem? (i := 456) (by decide +kernel)⟩
theorem mkX8_from (own : String) (idx : Nat) (h : Cond.methodLink own idx yX8_from ∈ lw_tbl ∨ ∃ host, Cond.methodLinkNest own idx yX8_from host ∈ lw_tbl) : MLk own idx mX8_from 1 := ⟨h, List.mem_of_getElem? (i := 84) (by decide +kernel), List.mem_of_getElem? (i := 677) (by decide +kernel), ⟨by decide +kernel, by decide +kernel⟩, by decide +kernel, by decide⟩
theorem mvX8_from (own : String) (idx : Nat) (h : Cond.methodLink own idx yX8_from ∈ lw_tbl ∨ ∃ host, Cond.methodLinkNest own idx yX8_from host ∈ lw_tbl) : MV own idx mX8_from 1 := ⟨mkX8_from own idx h, List.mem_of_getElem? (i := 675) (by decide +kernel), List.mem_of_getElem? (i := 676) (by decide +kernel)⟩
theorem mkX8_to (own : String) (idx : Nat) (h : Cond.methodLink own idx yX8_to ∈ lw_tbl ∨ ∃ host, Cond.methodLinkNest own idx yX8_to host ∈ lw_tbl) : MLk own idx mX8_to 1 := ⟨h, List.mem_of_getElem? (i := 84) (by decide +kernel), List.mem_of_getElem? (i := 681) (by decide +kernel), ⟨by decide +kernel, by decide +kernel⟩, by decide +kernel, by decide⟩
theorem mvX8_to (own : String) (idx : Nat) (h : Cond.methodLink own idx yX8_to ∈ lw_tbl ∨ ∃ host, Cond.methodLinkNest own idx yX8_to host ∈ lw_tbl) : MV own idx mX8_to 1 := ⟨mkX8_to own idx h, List.mem_of_getElem? (i := 679) (by decide +kernel), List.mem_of_getElem? (i := 680) (by decide +kernel)⟩
theorem mkX8_cell (own : String) (idx : Nat) (h : Cond.methodLink own idx yX8_cell ∈ lw_tbl ∨ ∃ host, Cond.methodLinkNest own idx yX8_cell host ∈ lw_tbl) : MLk own idx mX8_cell 2 := ⟨h, List.mem_of_getElem? (i := 84) (by decide +kernel), List.mem_of_getElem? (i := 461) (by decide +kernel), ⟨by decide +kernel, by decide +kernel⟩, by decide +kernel, by decide⟩
theorem mvX8_cell (own : String) (idx : Nat) (h : Cond.methodLink own idx yX8_cell ∈ lw_tbl ∨ ∃ host, Cond.methodLinkNest own idx yX8_cell host ∈ lw_tbl) : MV own idx mX8_cell 2 := ⟨mkX8_cell own idx h, List.mem_of_getElem? (i := 460) (by decide +kernel), List.mem_of_getElem? (i := 5) (by decide +kernel)⟩
theorem mkX8_countOf (own : String) (idx : Nat) (h : Cond.methodLink own idx yX8_countOf ∈ lw_tbl ∨ ∃ host, Cond.methodLinkNest own idx yX8_countOf host ∈ lw_tbl) : MLk own idx mX8_countOf 1 := ⟨h, List.mem_of_getElem? (i := 84) (by decide +kernel), List.mem_of_getElem? (i := 453) (by decide +kernel), ⟨by decide +kernel, by decide +kernel⟩, by decide +kernel, by decide⟩
theorem mvX8_countOf (own : String) (idx : Nat) (h : Cond.methodLink own idx yX8_countOf ∈ lw_tbl ∨ ∃ host, Cond.methodLinkNest own idx yX8_countOf host ∈ lw_tbl) : MV own idx mX8_countOf 1 := ⟨mkX8_countOf own idx h, List.mem_of_getElem? (i := 451) (by decide +kernel), List.mem_of_getElem? (i := 452) (by decide +kernel)⟩
theorem mkX8_renumberAbove (own : String) (idx : Nat) (h : Cond.methodLink own idx yX8_renumberAbove ∈ lw_tbl ∨ ∃ host, Cond.methodLinkNest own idx yX8_renumberAbove host ∈ lw_tbl) : MLk own idx mX8_renumberAbove 1 := ⟨h, List.mem_of_getElem? (i := 84) (by decide +kernel), List.mem_of_getElem? (i := 465) (by decide +kernel), ⟨by decide +kernel, by decide +kernel⟩, by decide +kernel, by decide⟩
theorem mvX8_renumberAbove (own : String) (idx : Nat) (h : Cond.methodLink own idx yX8_renumberAbove ∈ lw_tbl ∨ ∃ host, Cond.methodLinkNest own idx yX8_renumberAbove host ∈ lw_tbl) : MV own idx mX8_renumberAbove 1 := ⟨mkX8_renumberAbove own idx h, List.mem_of_getElem? (i := 463) (by decide +kernel), List.mem_of_getElem? (i := 464) (by decide +kernel)⟩
theorem mkX8_append (own : String) (idx : Nat) (h : Cond.methodLink own idx yX8_append ∈ lw_tbl ∨ ∃ host, Cond.methodLinkNest own idx yX8_append host ∈ lw_tbl) : MLk own idx mX8_append 3 := ⟨h, List.mem_of_getElem? (i := 84) (by decide +kernel), List.mem_of_getElem? (i := 644) (by decide +kernel), ⟨by decide +kernel, by decide +kernel⟩, by decide +kernel, by decide⟩
theorem mvX8_append (own : String) (idx : Nat) (h : Cond.methodLink own idx yX8_append ∈ lw_tbl ∨ ∃ host, Cond.methodLinkNest own idx yX8_append host ∈ lw_tbl) : MV own idx mX8_append 3 := ⟨mkX8_append own idx h, List.mem_of_getElem? (i := 642) (by decide +kernel), List.mem_of_getElem? (i := 643) (by decide +kernel)⟩
theorem mkX8_put (own : String) (idx : Nat) (h : Cond.methodLink own idx yX8_put ∈ lw_tbl ∨ ∃ host, Cond.methodLinkNest own idx yX8_put host ∈ lw_tbl) : MLk own idx mX8_put 4 := ⟨h, List.mem_of_getElem? (i := 84) (by decide +kernel), List.mem_of_getElem? (i := 648) (by decide +kernel), ⟨by decide +kernel, by decide +kernel⟩, by decide +kernel, by decide⟩
theorem mvX8_put (own : String) (idx : Nat) (h : Cond.methodLink own idx yX8_put ∈ lw_tbl ∨ ∃ host, Cond.methodLinkNest own idx yX8_put host ∈ lw_tbl) : MV own idx mX8_put 4 := ⟨mkX8_put own idx h, List.mem_of_getElem? (i := 647) (by decide +kernel), List.mem_of_getElem? (i := 8) (by decide +kernel)⟩
theorem mkX8_remove (own : String) (idx : Nat) (h : Cond.methodLink own idx yX8_remove ∈ lw_tbl ∨ ∃ host, Cond.methodLinkNest own idx yX8_remove host ∈ lw_tbl) : MLk own idx mX8_remove 1 := ⟨h, List.mem_of_getElem? (i := 84) (by decide +kernel), List.mem_of_getElem? (i := 657) (by decide +kernel), ⟨by decide +kernel, by decide +kernel⟩, by decide +kernel, by decide⟩
theorem mvX8_remove (own : String) (idx : Nat) (h : Cond.methodLink own idx yX8_remove ∈ lw_tbl ∨ ∃ host, Cond.methodLinkNest own idx yX8_remove host ∈ lw_tbl) : MV own idx mX8_remove 1 := ⟨mkX8_remove own idx h, List.mem_of_getElem? (i := 655) (by decide +kernel), List.mem_of_getElem? (i := 656) (by decide +kernel)⟩
theorem mkX8_move (own : String) (idx : Nat) (h : Cond.methodLink own idx yX8_move ∈ lw_tbl ∨ ∃ host, Cond.methodLinkNest own idx yX8_move host ∈ lw_tbl) : MLk own idx mX8_move 2 := ⟨h, List.mem_of_getElem? (i := 84) (by decide +kernel), List.mem_of_getElem? (i := 673) (by decide +kernel), ⟨by decide +kernel, by decide +kernel⟩, by decide +kernel, by decide⟩
theorem mvX8_move (own : String) (idx : Nat) (h : Cond.methodLink own idx yX8_move ∈ lw_tbl ∨ ∃ host, Cond.methodLinkNest own idx yX8_move host ∈ lw_tbl) : MV own idx mX8_move 2 := ⟨mkX8_move own idx h, List.mem_of_getElem? (i := 671) (by decide +kernel), List.mem_of_getElem? (i := 672) (by decide +kernel)⟩
theorem mkX8_moveRows (own : String) (idx : Nat) (h : Cond.methodLink own idx yX8_moveRows ∈ lw_tbl ∨ ∃ host, Cond.methodLinkNest own idx yX8_moveRows host ∈ lw_tbl) : MLk own idx mX8_moveRows 3 := ⟨h, List.mem_of_getElem? (i := 84) (by decide +kernel), List.mem_of_getElem? (i := 665) (by decide +kernel), ⟨by decide +kernel, by decide +kernel⟩, by decide +kernel, by decide⟩
theorem mvX8_moveRows (own : String) (idx : Nat) (h : Cond.methodLink own idx yX8_moveRows ∈ lw_tbl ∨ ∃ host, Cond.methodLinkNest own idx yX8_moveRows host ∈ lw_tbl) : MV own idx mX8_moveRows 3 := ⟨mkX8_moveRows own idx h, List.mem_of_getElem? (i := 664) (by decide +kernel), List.mem_of_getElem? (i := 9) (by decide +kernel)⟩
theorem mkX8_removeAll (own : String) (idx : Nat) (h : Cond.methodLink own idx yX8_removeAll ∈ lw_tbl ∨ ∃ host, Cond.methodLinkNest own idx yX8_removeAll host ∈ lw_tbl) : MLk own idx mX8_removeAll 0 := ⟨h, List.mem_of_getElem? (i := 84) (by decide +kernel), List.mem_of_getElem? (i := 690) (by decide +kernel), ⟨by decide +kernel, by decide +kernel⟩, by decide +kernel, by decide⟩
theorem mvX8_removeAll (own : String) (idx : Nat) (h : Cond.methodLink own idx yX8_removeAll ∈ lw_tbl ∨ ∃ host, Cond.methodLinkNest own idx yX8_removeAll host ∈ lw_tbl) : MV own idx mX8_removeAll 0 := ⟨mkX8_removeAll own idx h, List.mem_of_getElem? (i := 688) (by decide +kernel), List.mem_of_getElem? (i := 689) (by decide +kernel)⟩
theorem mkX9_init (own : String) (idx : Nat) (h : Cond.methodLink own idx yX9_init ∈ lw_tbl ∨ ∃ host, Cond.methodLinkNest own idx yX9_init host ∈ lw_tbl) : MLk own idx mX9_init 0 := ⟨h, List.mem_of_getElem? (i := 82) (by decide +kernel), List.mem_of_getElem? (i := 110) (by decide +kernel), ⟨by decide +kernel, by decide +kernel⟩, by decide +kernel, by decide⟩
theorem miX9_init (own : String) (idx : Nat) (h : Cond.methodLink own idx yX9_init ∈ lw_tbl ∨ ∃ host, Cond.methodLinkNest own idx yX9_init host ∈ lw_tbl) : MI own idx mX9_init 0 := ⟨mkX9_init own idx h, rfl, rfl, List.mem_of_getElem? (i := 109) (by decide +kernel)⟩
theorem mkX9_copyFrom (own : String) (idx : Nat) (h : Cond.methodLink own idx yX9_copyFrom ∈ lw_tbl ∨ ∃ host, Cond.methodLinkNest own idx yX9_copyFrom host ∈ lw_tbl) : MLk own idx mX9_copyFrom 1 := ⟨h, List.mem_of_getElem? (i := 82) (by decide +kernel), List.mem_of_getElem? (i := 365) (by decide +kernel), ⟨by decide +kernel, by decide +kernel⟩, by decide +kernel, by decide⟩
theorem mvX9_copyFrom (own : String) (idx : Nat) (h : Cond.methodLink own idx yX9_copyFrom ∈ lw_tbl ∨ ∃ host, Cond.methodLinkNest own idx yX9_copyFrom host ∈ lw_tbl) : MV own idx mX9_copyFrom 1 := ⟨mkX9_copyFrom own idx h, List.mem_of_getElem? (i := 363) (by decide +kernel), List.mem_of_getElem? (i := 364) (by decide +kernel)⟩
theorem mkX9_signProperty (own : String) (idx : Nat) (h : Cond.methodLink own idx yX9_signProperty ∈ lw_tbl ∨ ∃ host, Cond.methodLinkNest own idx yX9_signProperty host ∈ lw_tbl) : MLk own idx mX9_signProperty 2 := ⟨h, List.mem_of_getElem? (i := 82) (by decide +kernel), List.mem_of_getElem? (i := 501) (by decide +kernel), ⟨by decide +kernel, by decide +kernel⟩, by decide +kernel, by decide⟩
theorem mvX9_signProperty (own : String) (idx : Nat) (h : Cond.methodLink own idx yX9_signProperty ∈ lw_tbl ∨ ∃ host, Cond.methodLinkNest own idx yX9_signProperty host ∈ lw_tbl) : MV own idx mX9_signProperty 2 := ⟨mkX9_signProperty own idx h, List.mem_of_getElem? (i := 499) (by decide +kernel), List.mem_of_getElem? (i := 500) (by decide +kernel)⟩
theorem mkX9_sortOfWord (own : String) (idx : Nat) (h : Cond.methodLink own idx yX9_sortOfWord ∈ lw_tbl ∨ ∃ host, Cond.methodLinkNest own idx yX9_sortOfWord host ∈ lw_tbl) : MLk own idx mX9_sortOfWord 1 := ⟨h, List.mem_of_getElem? (i := 82) (by decide +kernel), List.mem_of_getElem? (i := 705) (by decide +kernel), ⟨by decide +kernel, by decide +kernel⟩, by decide +kernel, by decide⟩
theorem mvX9_sortOfWord (own : String) (idx : Nat) (h : Cond.methodLink own idx yX9_sortOfWord ∈ lw_tbl ∨ ∃ host, Cond.methodLinkNest own idx yX9_sortOfWord host ∈ lw_tbl) : MV own idx mX9_sortOfWord 1 := ⟨mkX9_sortOfWord own idx h, List.mem_of_getElem? (i := 703) (by decide +kernel), List.mem_of_getElem? (i := 704) (by decide +kernel)⟩
theorem mkX9_removeSign (own : String) (idx : Nat) (h : Cond.methodLink own idx yX9_removeSign ∈ lw_tbl ∨ ∃ host, Cond.methodLinkNest own idx yX9_removeSign host ∈ lw_tbl) : MLk own idx mX9_removeSign 1 := ⟨h, List.mem_of_getElem? (i := 82) (by decide +kernel), List.mem_of_getElem? (i := 448) (by decide +kernel), ⟨by decide +kernel, by decide +kernel⟩, by decide +kernel, by decide⟩
theorem mvX9_removeSign (own : String) (idx : Nat) (h : Cond.methodLink own idx yX9_removeSign ∈ lw_tbl ∨ ∃ host, Cond.methodLinkNest own idx yX9_removeSign host ∈ lw_tbl) : MV own idx mX9_removeSign 1 := ⟨mkX9_removeSign own idx h, List.mem_of_getElem? (i := 446) (by decide +kernel), List.mem_of_getElem? (i := 447) (by decide +kernel)⟩
theorem mkX9_addWord (own : String) (idx : Nat) (h : Cond.methodLink own idx yX9_addWord ∈ lw_tbl ∨ ∃ host, Cond.methodLinkNest own idx yX9_addWord host ∈ lw_tbl) : MLk own idx mX9_addWord 3 := ⟨h, List.mem_of_getElem? (i := 82) (by decide +kernel), List.mem_of_getElem? (i := 639) (by decide +kernel), ⟨by decide +kernel, by decide +kernel⟩, by decide +kernel, by decide⟩
theorem mvX9_addWord (own : String) (idx : Nat) (h : Cond.methodLink own idx yX9_addWord ∈ lw_tbl ∨ ∃ host, Cond.methodLinkNest own idx yX9_addWord host ∈ lw_tbl) : MV own idx mX9_addWord 3 := ⟨mkX9_addWord own idx h, List.mem_of_getElem? (i := 637) (by decide +kernel), List.mem_of_getElem? (i := 638) (by decide +kernel)⟩
theorem mkX9_layOne (own : String) (idx : Nat) (h : Cond.methodLink own idx yX9_layOne ∈ lw_tbl ∨ ∃ host, Cond.methodLinkNest own idx yX9_layOne host ∈ lw_tbl) : MLk own idx mX9_layOne 2 := ⟨h, List.mem_of_getElem? (i := 82) (by decide +kernel), List.mem_of_getElem? (i := 783) (by decide +kernel), ⟨by decide +kernel, by decide +kernel⟩, by decide +kernel, by decide⟩
theorem mvX9_layOne (own : String) (idx : Nat) (h : Cond.methodLink own idx yX9_layOne ∈ lw_tbl ∨ ∃ host, Cond.methodLinkNest own idx yX9_layOne host ∈ lw_tbl) : MV own idx mX9_layOne 2 := ⟨mkX9_layOne own idx h, List.mem_of_getElem? (i := 781) (by decide +kernel), List.mem_of_getElem? (i := 782) (by decide +kernel)⟩
theorem mkX9_layAll (own : String) (idx : Nat) (h : Cond.methodLink own idx yX9_layAll ∈ lw_tbl ∨ ∃ host, Cond.methodLinkNest own idx yX9_layAll host ∈ lw_tbl) : MLk own idx mX9_layAll 2 := ⟨h, List.mem_of_getElem? (i := 82) (by decide +kernel), List.mem_of_getElem? (i := 887) (by decide +kernel), ⟨by decide +kernel, by decide +kernel⟩, by decide +kernel, by decide⟩
theorem mvX9_layAll (own : String) (idx : Nat) (h : Cond.methodLink own idx yX9_layAll ∈ lw_tbl ∨ ∃ host, Cond.methodLinkNest own idx yX9_layAll host ∈ lw_tbl) : MV own idx mX9_layAll 2 := ⟨mkX9_layAll own idx h, List.mem_of_getElem? (i := 885) (by decide +kernel), List.mem_of_getElem? (i := 886) (by decide +kernel)⟩
theorem mkX10_init (own : String) (idx : Nat) (h : Cond.methodLink own idx yX10_init ∈ lw_tbl ∨ ∃ host, Cond.methodLinkNest own idx yX10_init host ∈ lw_tbl) : MLk own idx mX10_init 0 := ⟨h, List.mem_of_getElem? (i := 88) (by decide +kernel), List.mem_of_getElem? (i := 253) (by decide +kernel), ⟨by decide +kernel, by decide +kernel⟩, by decide +kernel, by decide⟩
theorem miX10_init (own : String) (idx : Nat) (h : Cond.methodLink own idx yX10_init ∈ lw_tbl ∨ ∃ host, Cond.methodLinkNest own idx yX10_init host ∈ lw_tbl) : MI own idx mX10_init 0 := ⟨mkX10_init own idx h, rfl, rfl, List.mem_of_getElem? (i := 252) (by decide +kernel)⟩
theorem mkX10_check (own : String) (idx : Nat) (h : Cond.methodLink own idx yX10_check ∈ lw_tbl ∨ ∃ host, Cond.methodLinkNest own idx yX10_check host ∈ lw_tbl) : MLk own idx mX10_check 1 := ⟨h, List.mem_of_getElem? (i := 88) (by decide +kernel), List.mem_of_getElem? (i := 749) (by decide +kernel), ⟨by decide +kernel, by decide +kernel⟩, by decide +kernel, by decide⟩
theorem mvX10_check (own : String) (idx : Nat) (h : Cond.methodLink own idx yX10_check ∈ lw_tbl ∨ ∃ host, Cond.methodLinkNest own idx yX10_check host ∈ lw_tbl) : MV own idx mX10_check 1 := ⟨mkX10_check own idx h, List.mem_of_getElem? (i := 747) (by decide +kernel), List.mem_of_getElem? (i := 748) (by decide +kernel)⟩
theorem mkX11_init (own : String) (idx : Nat) (h : Cond.methodLink own idx yX11_init ∈ lw_tbl ∨ ∃ host, Cond.methodLinkNest own idx yX11_init host ∈ lw_tbl) : MLk own idx mX11_init 0 := ⟨h, List.mem_of_getElem? (i := 81) (by decide +kernel), List.mem_of_getElem? (i := 102) (by decide +kernel), ⟨by decide +kernel, by decide +kernel⟩, by decide +kernel, by decide⟩
theorem miX11_init (own : String) (idx : Nat) (h : Cond.methodLink own idx yX11_init ∈ lw_tbl ∨ ∃ host, Cond.methodLinkNest own idx yX11_init host ∈ lw_tbl) : MI own idx mX11_init 0 := ⟨mkX11_init own idx h, rfl, rfl, List.mem_of_getElem? (i := 101) (by decide +kernel)⟩
theorem mkX11_sign (own : String) (idx : Nat) (h : Cond.methodLink own idx yX11_sign ∈ lw_tbl ∨ ∃ host, Cond.methodLinkNest own idx yX11_sign host ∈ lw_tbl) : MLk own idx mX11_sign 5 := ⟨h, List.mem_of_getElem? (i := 81) (by decide +kernel), List.mem_of_getElem? (i := 357) (by decide +kernel), ⟨by decide +kernel, by decide +kernel⟩, by decide +kernel, by decide⟩
theorem mvX11_sign (own : String) (idx : Nat) (h : Cond.methodLink own idx yX11_sign ∈ lw_tbl ∨ ∃ host, Cond.methodLinkNest own idx yX11_sign host ∈ lw_tbl) : MV own idx mX11_sign 5 := ⟨mkX11_sign own idx h, List.mem_of_getElem? (i := 355) (by decide +kernel), List.mem_of_getElem? (i := 356) (by decide +kernel)⟩
theorem mkX11_becomes (own : String) (idx : Nat) (h : Cond.methodLink own idx yX11_becomes ∈ lw_tbl ∨ ∃ host, Cond.methodLinkNest own idx yX11_becomes host ∈ lw_tbl) : MLk own idx mX11_becomes 3 := ⟨h, List.mem_of_getElem? (i := 81) (by decide +kernel), List.mem_of_getElem? (i := 432) (by decide +kernel), ⟨by decide +kernel, by decide +kernel⟩, by decide +kernel, by decide⟩
theorem mvX11_becomes (own : String) (idx : Nat) (h : Cond.methodLink own idx yX11_becomes ∈ lw_tbl ∨ ∃ host, Cond.methodLinkNest own idx yX11_becomes host ∈ lw_tbl) : MV own idx mX11_becomes 3 := ⟨mkX11_becomes own idx h, List.mem_of_getElem? (i := 430) (by decide +kernel), List.mem_of_getElem? (i := 431) (by decide +kernel)⟩
theorem mkX11_drops (own : String) (idx : Nat) (h : Cond.methodLink own idx yX11_drops ∈ lw_tbl ∨ ∃ host, Cond.methodLinkNest own idx yX11_drops host ∈ lw_tbl) : MLk own idx mX11_drops 1 := ⟨h, List.mem_of_getElem? (i := 81) (by decide +kernel), List.mem_of_getElem? (i := 444) (by decide +kernel), ⟨by decide +kernel, by decide +kernel⟩, by decide +kernel, by decide⟩
theorem mvX11_drops (own : String) (idx : Nat) (h : Cond.methodLink own idx yX11_drops ∈ lw_tbl ∨ ∃ host, Cond.methodLinkNest own idx yX11_drops host ∈ lw_tbl) : MV own idx mX11_drops 1 := ⟨mkX11_drops own idx h, List.mem_of_getElem? (i := 442) (by decide +kernel), List.mem_of_getElem? (i := 443) (by decide +kernel)⟩
theorem mkX11_weight (own : String) (idx : Nat) (h : Cond.methodLink own idx yX11_weight ∈ lw_tbl ∨ ∃ host, Cond.methodLinkNest own idx yX11_weight host ∈ lw_tbl) : MLk own idx mX11_weight 2 := ⟨h, List.mem_of_getElem? (i := 81) (by decide +kernel), List.mem_of_getElem? (i := 473) (by decide +kernel), ⟨by decide +kernel, by decide +kernel⟩, by decide +kernel, by decide⟩
theorem mvX11_weight (own : String) (idx : Nat) (h : Cond.methodLink own idx yX11_weight ∈ lw_tbl ∨ ∃ host, Cond.methodLinkNest own idx yX11_weight host ∈ lw_tbl) : MV own idx mX11_weight 2 := ⟨mkX11_weight own idx h, List.mem_of_getElem? (i := 471) (by decide +kernel), List.mem_of_getElem? (i := 472) (by decide +kernel)⟩
theorem mkX11_draws (own : String) (idx : Nat) (h : Cond.methodLink own idx yX11_draws ∈ lw_tbl ∨ ∃ host, Cond.methodLinkNest own idx yX11_draws host ∈ lw_tbl) : MLk own idx mX11_draws 2 := ⟨h, List.mem_of_getElem? (i := 81) (by decide +kernel), List.mem_of_getElem? (i := 481) (by decide +kernel), ⟨by decide +kernel, by decide +kernel⟩, by decide +kernel, by decide⟩
theorem mvX11_draws (own : String) (idx : Nat) (h : Cond.methodLink own idx yX11_draws ∈ lw_tbl ∨ ∃ host, Cond.methodLinkNest own idx yX11_draws host ∈ lw_tbl) : MV own idx mX11_draws 2 := ⟨mkX11_draws own idx h, List.mem_of_getElem? (i := 479) (by decide +kernel), List.mem_of_getElem? (i := 480) (by decide +kernel)⟩
theorem mkX11_of (own : String) (idx : Nat) (h : Cond.methodLink own idx yX11_of ∈ lw_tbl ∨ ∃ host, Cond.methodLinkNest own idx yX11_of host ∈ lw_tbl) : MLk own idx mX11_of 2 := ⟨h, List.mem_of_getElem? (i := 81) (by decide +kernel), List.mem_of_getElem? (i := 496) (by decide +kernel), ⟨by decide +kernel, by decide +kernel⟩, by decide +kernel, by decide⟩
theorem mvX11_of (own : String) (idx : Nat) (h : Cond.methodLink own idx yX11_of ∈ lw_tbl ∨ ∃ host, Cond.methodLinkNest own idx yX11_of host ∈ lw_tbl) : MV own idx mX11_of 2 := ⟨mkX11_of own idx h, List.mem_of_getElem? (i := 494) (by decide +kernel), List.mem_of_getElem? (i := 495) (by decide +kernel)⟩
theorem mkX11_apart (own : String) (idx : Nat) (h : Cond.methodLink own idx yX11_apart ∈ lw_tbl ∨ ∃ host, Cond.methodLinkNest own idx yX11_apart host ∈ lw_tbl) : MLk own idx mX11_apart 3 := ⟨h, List.mem_of_getElem? (i := 81) (by decide +kernel), List.mem_of_getElem? (i := 506) (by decide +kernel), ⟨by decide +kernel, by decide +kernel⟩, by decide +kernel, by decide⟩
theorem mvX11_apart (own : String) (idx : Nat) (h : Cond.methodLink own idx yX11_apart ∈ lw_tbl ∨ ∃ host, Cond.methodLinkNest own idx yX11_apart host ∈ lw_tbl) : MV own idx mX11_apart 3 := ⟨mkX11_apart own idx h, List.mem_of_getElem? (i := 504) (by decide +kernel), List.mem_of_getElem? (i := 505) (by decide +kernel)⟩
theorem mkX11_look (own : String) (idx : Nat) (h : Cond.methodLink own idx yX11_look ∈ lw_tbl ∨ ∃ host, Cond.methodLinkNest own idx yX11_look host ∈ lw_tbl) : MLk own idx mX11_look 4 := ⟨h, List.mem_of_getElem? (i := 81) (by decide +kernel), List.mem_of_getElem? (i := 532) (by decide +kernel), ⟨by decide +kernel, by decide +kernel⟩, by decide +kernel, by decide⟩
theorem mvX11_look (own : String) (idx : Nat) (h : Cond.methodLink own idx yX11_look ∈ lw_tbl ∨ ∃ host, Cond.methodLinkNest own idx yX11_look host ∈ lw_tbl) : MV own idx mX11_look 4 := ⟨mkX11_look own idx h, List.mem_of_getElem? (i := 530) (by decide +kernel), List.mem_of_getElem? (i := 531) (by decide +kernel)⟩
theorem mkX11_near (own : String) (idx : Nat) (h : Cond.methodLink own idx yX11_near ∈ lw_tbl ∨ ∃ host, Cond.methodLinkNest own idx yX11_near host ∈ lw_tbl) : MLk own idx mX11_near 2 := ⟨h, List.mem_of_getElem? (i := 81) (by decide +kernel), List.mem_of_getElem? (i := 546) (by decide +kernel), ⟨by decide +kernel, by decide +kernel⟩, by decide +kernel, by decide⟩
theorem mvX11_near (own : String) (idx : Nat) (h : Cond.methodLink own idx yX11_near ∈ lw_tbl ∨ ∃ host, Cond.methodLinkNest own idx yX11_near host ∈ lw_tbl) : MV own idx mX11_near 2 := ⟨mkX11_near own idx h, List.mem_of_getElem? (i := 544) (by decide +kernel), List.mem_of_getElem? (i := 545) (by decide +kernel)⟩
theorem mkX11_nearest (own : String) (idx : Nat) (h : Cond.methodLink own idx yX11_nearest ∈ lw_tbl ∨ ∃ host, Cond.methodLinkNest own idx yX11_nearest host ∈ lw_tbl) : MLk own idx mX11_nearest 4 := ⟨h, List.mem_of_getElem? (i := 81) (by decide +kernel), List.mem_of_getElem? (i := 555) (by decide +kernel), ⟨by decide +kernel, by decide +kernel⟩, by decide +kernel, by decide⟩
theorem mvX11_nearest (own : String) (idx : Nat) (h : Cond.methodLink own idx yX11_nearest ∈ lw_tbl ∨ ∃ host, Cond.methodLinkNest own idx yX11_nearest host ∈ lw_tbl) : MV own idx mX11_nearest 4 := ⟨mkX11_nearest own idx h, List.mem_of_getElem? (i := 553) (by decide +kernel), List.mem_of_getElem? (i := 554) (by decide +kernel)⟩
theorem mkX11_sorts (own : String) (idx : Nat) (h : Cond.methodLink own idx yX11_sorts ∈ lw_tbl ∨ ∃ host, Cond.methodLinkNest own idx yX11_sorts host ∈ lw_tbl) : MLk own idx mX11_sorts 1 := ⟨h, List.mem_of_getElem? (i := 81) (by decide +kernel), List.mem_of_getElem? (i := 564) (by decide +kernel), ⟨by decide +kernel, by decide +kernel⟩, by decide +kernel, by decide⟩
theorem mvX11_sorts (own : String) (idx : Nat) (h : Cond.methodLink own idx yX11_sorts ∈ lw_tbl ∨ ∃ host, Cond.methodLinkNest own idx yX11_sorts host ∈ lw_tbl) : MV own idx mX11_sorts 1 := ⟨mkX11_sorts own idx h, List.mem_of_getElem? (i := 562) (by decide +kernel), List.mem_of_getElem? (i := 563) (by decide +kernel)⟩
theorem mkX11_groups (own : String) (idx : Nat) (h : Cond.methodLink own idx yX11_groups ∈ lw_tbl ∨ ∃ host, Cond.methodLinkNest own idx yX11_groups host ∈ lw_tbl) : MLk own idx mX11_groups 2 := ⟨h, List.mem_of_getElem? (i := 81) (by decide +kernel), List.mem_of_getElem? (i := 572) (by decide +kernel), ⟨by decide +kernel, by decide +kernel⟩, by decide +kernel, by decide⟩
theorem mvX11_groups (own : String) (idx : Nat) (h : Cond.methodLink own idx yX11_groups ∈ lw_tbl ∨ ∃ host, Cond.methodLinkNest own idx yX11_groups host ∈ lw_tbl) : MV own idx mX11_groups 2 := ⟨mkX11_groups own idx h, List.mem_of_getElem? (i := 570) (by decide +kernel), List.mem_of_getElem? (i := 571) (by decide +kernel)⟩
theorem mkX11_twins (own : String) (idx : Nat) (h : Cond.methodLink own idx yX11_twins ∈ lw_tbl ∨ ∃ host, Cond.methodLinkNest own idx yX11_twins host ∈ lw_tbl) : MLk own idx mX11_twins 1 := ⟨h, List.mem_of_getElem? (i := 81) (by decide +kernel), List.mem_of_getElem? (i := 599) (by decide +kernel), ⟨by decide +kernel, by decide +kernel⟩, by decide +kernel, by decide⟩
theorem mvX11_twins (own : String) (idx : Nat) (h : Cond.methodLink own idx yX11_twins ∈ lw_tbl ∨ ∃ host, Cond.methodLinkNest own idx yX11_twins host ∈ lw_tbl) : MV own idx mX11_twins 1 := ⟨mkX11_twins own idx h, List.mem_of_getElem? (i := 597) (by decide +kernel), List.mem_of_getElem? (i := 598) (by decide +kernel)⟩
theorem mkX11_enough (own : String) (idx : Nat) (h : Cond.methodLink own idx yX11_enough ∈ lw_tbl ∨ ∃ host, Cond.methodLinkNest own idx yX11_enough host ∈ lw_tbl) : MLk own idx mX11_enough 1 := ⟨h, List.mem_of_getElem? (i := 81) (by decide +kernel), List.mem_of_getElem? (i := 613) (by decide +kernel), ⟨by decide +kernel, by decide +kernel⟩, by decide +kernel, by decide⟩
theorem mvX11_enough (own : String) (idx : Nat) (h : Cond.methodLink own idx yX11_enough ∈ lw_tbl ∨ ∃ host, Cond.methodLinkNest own idx yX11_enough host ∈ lw_tbl) : MV own idx mX11_enough 1 := ⟨mkX11_enough own idx h, List.mem_of_getElem? (i := 611) (by decide +kernel), List.mem_of_getElem? (i := 612) (by decide +kernel)⟩
theorem mkX11_span (own : String) (idx : Nat) (h : Cond.methodLink own idx yX11_span ∈ lw_tbl ∨ ∃ host, Cond.methodLinkNest own idx yX11_span host ∈ lw_tbl) : MLk own idx mX11_span 1 := ⟨h, List.mem_of_getElem? (i := 81) (by decide +kernel), List.mem_of_getElem? (i := 627) (by decide +kernel), ⟨by decide +kernel, by decide +kernel⟩, by decide +kernel, by decide⟩
theorem mvX11_span (own : String) (idx : Nat) (h : Cond.methodLink own idx yX11_span ∈ lw_tbl ∨ ∃ host, Cond.methodLinkNest own idx yX11_span host ∈ lw_tbl) : MV own idx mX11_span 1 := ⟨mkX11_span own idx h, List.mem_of_getElem? (i := 625) (by decide +kernel), List.mem_of_getElem? (i := 626) (by decide +kernel)⟩
theorem mkX11_word (own : String) (idx : Nat) (h : Cond.methodLink own idx yX11_word ∈ lw_tbl ∨ ∃ host, Cond.methodLinkNest own idx yX11_word host ∈ lw_tbl) : MLk own idx mX11_word 3 := ⟨h, List.mem_of_getElem? (i := 81) (by decide +kernel), List.mem_of_getElem? (i := 635) (by decide +kernel), ⟨by decide +kernel, by decide +kernel⟩, by decide +kernel, by decide⟩
theorem mvX11_word (own : String) (idx : Nat) (h : Cond.methodLink own idx yX11_word ∈ lw_tbl ∨ ∃ host, Cond.methodLinkNest own idx yX11_word host ∈ lw_tbl) : MV own idx mX11_word 3 := ⟨mkX11_word own idx h, List.mem_of_getElem? (i := 633) (by decide +kernel), List.mem_of_getElem? (i := 634) (by decide +kernel)⟩
theorem mkX11_cuts (own : String) (idx : Nat) (h : Cond.methodLink own idx yX11_cuts ∈ lw_tbl ∨ ∃ host, Cond.methodLinkNest own idx yX11_cuts host ∈ lw_tbl) : MLk own idx mX11_cuts 1 := ⟨h, List.mem_of_getElem? (i := 81) (by decide +kernel), List.mem_of_getElem? (i := 653) (by decide +kernel), ⟨by decide +kernel, by decide +kernel⟩, by decide +kernel, by decide⟩
theorem mvX11_cuts (own : String) (idx : Nat) (h : Cond.methodLink own idx yX11_cuts ∈ lw_tbl ∨ ∃ host, Cond.methodLinkNest own idx yX11_cuts host ∈ lw_tbl) : MV own idx mX11_cuts 1 := ⟨mkX11_cuts own idx h, List.mem_of_getElem? (i := 651) (by decide +kernel), List.mem_of_getElem? (i := 652) (by decide +kernel)⟩
theorem mkX11_shifts (own : String) (idx : Nat) (h : Cond.methodLink own idx yX11_shifts ∈ lw_tbl ∨ ∃ host, Cond.methodLinkNest own idx yX11_shifts host ∈ lw_tbl) : MLk own idx mX11_shifts 2 := ⟨h, List.mem_of_getElem? (i := 81) (by decide +kernel), List.mem_of_getElem? (i := 669) (by decide +kernel), ⟨by decide +kernel, by decide +kernel⟩, by decide +kernel, by decide⟩
theorem mvX11_shifts (own : String) (idx : Nat) (h : Cond.methodLink own idx yX11_shifts ∈ lw_tbl ∨ ∃ host, Cond.methodLinkNest own idx yX11_shifts host ∈ lw_tbl) : MV own idx mX11_shifts 2 := ⟨mkX11_shifts own idx h, List.mem_of_getElem? (i := 667) (by decide +kernel), List.mem_of_getElem? (i := 668) (by decide +kernel)⟩
theorem mkX11_clears (own : String) (idx : Nat) (h : Cond.methodLink own idx yX11_clears ∈ lw_tbl ∨ ∃ host, Cond.methodLinkNest own idx yX11_clears host ∈ lw_tbl) : MLk own idx mX11_clears 0 := ⟨h, List.mem_of_getElem? (i := 81) (by decide +kernel), List.mem_of_getElem? (i := 686) (by decide +kernel), ⟨by decide +kernel, by decide +kernel⟩, by decide +kernel, by decide⟩
theorem mvX11_clears (own : String) (idx : Nat) (h : Cond.methodLink own idx yX11_clears ∈ lw_tbl ∨ ∃ host, Cond.methodLinkNest own idx yX11_clears host ∈ lw_tbl) : MV own idx mX11_clears 0 := ⟨mkX11_clears own idx h, List.mem_of_getElem? (i := 684) (by decide +kernel), List.mem_of_getElem? (i := 685) (by decide +kernel)⟩
theorem mkX11_wordOf (own : String) (idx : Nat) (h : Cond.methodLink own idx yX11_wordOf ∈ lw_tbl ∨ ∃ host, Cond.methodLinkNest own idx yX11_wordOf host ∈ lw_tbl) : MLk own idx mX11_wordOf 2 := ⟨h, List.mem_of_getElem? (i := 81) (by decide +kernel), List.mem_of_getElem? (i := 694) (by decide +kernel), ⟨by decide +kernel, by decide +kernel⟩, by decide +kernel, by decide⟩
theorem mvX11_wordOf (own : String) (idx : Nat) (h : Cond.methodLink own idx yX11_wordOf ∈ lw_tbl ∨ ∃ host, Cond.methodLinkNest own idx yX11_wordOf host ∈ lw_tbl) : MV own idx mX11_wordOf 2 := ⟨mkX11_wordOf own idx h, List.mem_of_getElem? (i := 692) (by decide +kernel), List.mem_of_getElem? (i := 693) (by decide +kernel)⟩
theorem mkX11_at (own : String) (idx : Nat) (h : Cond.methodLink own idx yX11_at ∈ lw_tbl ∨ ∃ host, Cond.methodLinkNest own idx yX11_at host ∈ lw_tbl) : MLk own idx mX11_at 2 := ⟨h, List.mem_of_getElem? (i := 81) (by decide +kernel), List.mem_of_getElem? (i := 735) (by decide +kernel), ⟨by decide +kernel, by decide +kernel⟩, by decide +kernel, by decide⟩
theorem mvX11_at (own : String) (idx : Nat) (h : Cond.methodLink own idx yX11_at ∈ lw_tbl ∨ ∃ host, Cond.methodLinkNest own idx yX11_at host ∈ lw_tbl) : MV own idx mX11_at 2 := ⟨mkX11_at own idx h, List.mem_of_getElem? (i := 733) (by decide +kernel), List.mem_of_getElem? (i := 734) (by decide +kernel)⟩
theorem mkX11_all (own : String) (idx : Nat) (h : Cond.methodLink own idx yX11_all ∈ lw_tbl ∨ ∃ host, Cond.methodLinkNest own idx yX11_all host ∈ lw_tbl) : MLk own idx mX11_all 1 := ⟨h, List.mem_of_getElem? (i := 81) (by decide +kernel), List.mem_of_getElem? (i := 741) (by decide +kernel), ⟨by decide +kernel, by decide +kernel⟩, by decide +kernel, by decide⟩
theorem mvX11_all (own : String) (idx : Nat) (h : Cond.methodLink own idx yX11_all ∈ lw_tbl ∨ ∃ host, Cond.methodLinkNest own idx yX11_all host ∈ lw_tbl) : MV own idx mX11_all 1 := ⟨mkX11_all own idx h, List.mem_of_getElem? (i := 739) (by decide +kernel), List.mem_of_getElem? (i := 740) (by decide +kernel)⟩
theorem mkX11_lays (own : String) (idx : Nat) (h : Cond.methodLink own idx yX11_lays ∈ lw_tbl ∨ ∃ host, Cond.methodLinkNest own idx yX11_lays host ∈ lw_tbl) : MLk own idx mX11_lays 2 := ⟨h, List.mem_of_getElem? (i := 81) (by decide +kernel), List.mem_of_getElem? (i := 779) (by decide +kernel), ⟨by decide +kernel, by decide +kernel⟩, by decide +kernel, by decide⟩
theorem mvX11_lays (own : String) (idx : Nat) (h : Cond.methodLink own idx yX11_lays ∈ lw_tbl ∨ ∃ host, Cond.methodLinkNest own idx yX11_lays host ∈ lw_tbl) : MV own idx mX11_lays 2 := ⟨mkX11_lays own idx h, List.mem_of_getElem? (i := 777) (by decide +kernel), List.mem_of_getElem? (i := 778) (by decide +kernel)⟩
theorem mkX11_lay (own : String) (idx : Nat) (h : Cond.methodLink own idx yX11_lay ∈ lw_tbl ∨ ∃ host, Cond.methodLinkNest own idx yX11_lay host ∈ lw_tbl) : MLk own idx mX11_lay 1 := ⟨h, List.mem_of_getElem? (i := 81) (by decide +kernel), List.mem_of_getElem? (i := 788) (by decide +kernel), ⟨by decide +kernel, by decide +kernel⟩, by decide +kernel, by decide⟩
theorem mvX11_lay (own : String) (idx : Nat) (h : Cond.methodLink own idx yX11_lay ∈ lw_tbl ∨ ∃ host, Cond.methodLinkNest own idx yX11_lay host ∈ lw_tbl) : MV own idx mX11_lay 1 := ⟨mkX11_lay own idx h, List.mem_of_getElem? (i := 786) (by decide +kernel), List.mem_of_getElem? (i := 787) (by decide +kernel)⟩
theorem mkX11_best (own : String) (idx : Nat) (h : Cond.methodLink own idx yX11_best ∈ lw_tbl ∨ ∃ host, Cond.methodLinkNest own idx yX11_best host ∈ lw_tbl) : MLk own idx mX11_best 1 := ⟨h, List.mem_of_getElem? (i := 81) (by decide +kernel), List.mem_of_getElem? (i := 792) (by decide +kernel), ⟨by decide +kernel, by decide +kernel⟩, by decide +kernel, by decide⟩
theorem mvX11_best (own : String) (idx : Nat) (h : Cond.methodLink own idx yX11_best ∈ lw_tbl ∨ ∃ host, Cond.methodLinkNest own idx yX11_best host ∈ lw_tbl) : MV own idx mX11_best 1 := ⟨mkX11_best own idx h, List.mem_of_getElem? (i := 790) (by decide +kernel), List.mem_of_getElem? (i := 791) (by decide +kernel)⟩
theorem mkX11_settles (own : String) (idx : Nat) (h : Cond.methodLink own idx yX11_settles ∈ lw_tbl ∨ ∃ host, Cond.methodLinkNest own idx yX11_settles host ∈ lw_tbl) : MLk own idx mX11_settles 0 := ⟨h, List.mem_of_getElem? (i := 81) (by decide +kernel), List.mem_of_getElem? (i := 817) (by decide +kernel), ⟨by decide +kernel, by decide +kernel⟩, by decide +kernel, by decide⟩
theorem mvX11_settles (own : String) (idx : Nat) (h : Cond.methodLink own idx yX11_settles ∈ lw_tbl ∨ ∃ host, Cond.methodLinkNest own idx yX11_settles host ∈ lw_tbl) : MV own idx mX11_settles 0 := ⟨mkX11_settles own idx h, List.mem_of_getElem? (i := 815) (by decide +kernel), List.mem_of_getElem? (i := 816) (by decide +kernel)⟩
theorem mkX11_type (own : String) (idx : Nat) (h : Cond.methodLink own idx yX11_type ∈ lw_tbl ∨ ∃ host, Cond.methodLinkNest own idx yX11_type host ∈ lw_tbl) : MLk own idx mX11_type 1 := ⟨h, List.mem_of_getElem? (i := 81) (by decide +kernel), List.mem_of_getElem? (i := 822) (by decide +kernel), ⟨by decide +kernel, by decide +kernel⟩, by decide +kernel, by decide⟩
theorem mvX11_type (own : String) (idx : Nat) (h : Cond.methodLink own idx yX11_type ∈ lw_tbl ∨ ∃ host, Cond.methodLinkNest own idx yX11_type host ∈ lw_tbl) : MV own idx mX11_type 1 := ⟨mkX11_type own idx h, List.mem_of_getElem? (i := 820) (by decide +kernel), List.mem_of_getElem? (i := 821) (by decide +kernel)⟩
theorem mkX11_clear (own : String) (idx : Nat) (h : Cond.methodLink own idx yX11_clear ∈ lw_tbl ∨ ∃ host, Cond.methodLinkNest own idx yX11_clear host ∈ lw_tbl) : MLk own idx mX11_clear 0 := ⟨h, List.mem_of_getElem? (i := 81) (by decide +kernel), List.mem_of_getElem? (i := 831) (by decide +kernel), ⟨by decide +kernel, by decide +kernel⟩, by decide +kernel, by decide⟩
theorem mvX11_clear (own : String) (idx : Nat) (h : Cond.methodLink own idx yX11_clear ∈ lw_tbl ∨ ∃ host, Cond.methodLinkNest own idx yX11_clear host ∈ lw_tbl) : MV own idx mX11_clear 0 := ⟨mkX11_clear own idx h, List.mem_of_getElem? (i := 829) (by decide +kernel), List.mem_of_getElem? (i := 830) (by decide +kernel)⟩
theorem mkX11_reads (own : String) (idx : Nat) (h : Cond.methodLink own idx yX11_reads ∈ lw_tbl ∨ ∃ host, Cond.methodLinkNest own idx yX11_reads host ∈ lw_tbl) : MLk own idx mX11_reads 0 := ⟨h, List.mem_of_getElem? (i := 81) (by decide +kernel), List.mem_of_getElem? (i := 839) (by decide +kernel), ⟨by decide +kernel, by decide +kernel⟩, by decide +kernel, by decide⟩
theorem mvX11_reads (own : String) (idx : Nat) (h : Cond.methodLink own idx yX11_reads ∈ lw_tbl ∨ ∃ host, Cond.methodLinkNest own idx yX11_reads host ∈ lw_tbl) : MV own idx mX11_reads 0 := ⟨mkX11_reads own idx h, List.mem_of_getElem? (i := 837) (by decide +kernel), List.mem_of_getElem? (i := 838) (by decide +kernel)⟩
theorem mkX11_back (own : String) (idx : Nat) (h : Cond.methodLink own idx yX11_back ∈ lw_tbl ∨ ∃ host, Cond.methodLinkNest own idx yX11_back host ∈ lw_tbl) : MLk own idx mX11_back 0 := ⟨h, List.mem_of_getElem? (i := 81) (by decide +kernel), List.mem_of_getElem? (i := 896) (by decide +kernel), ⟨by decide +kernel, by decide +kernel⟩, by decide +kernel, by decide⟩
theorem mvX11_back (own : String) (idx : Nat) (h : Cond.methodLink own idx yX11_back ∈ lw_tbl ∨ ∃ host, Cond.methodLinkNest own idx yX11_back host ∈ lw_tbl) : MV own idx mX11_back 0 := ⟨mkX11_back own idx h, List.mem_of_getElem? (i := 894) (by decide +kernel), List.mem_of_getElem? (i := 895) (by decide +kernel)⟩
theorem mkX11_told (own : String) (idx : Nat) (h : Cond.methodLink own idx yX11_told ∈ lw_tbl ∨ ∃ host, Cond.methodLinkNest own idx yX11_told host ∈ lw_tbl) : MLk own idx mX11_told 1 := ⟨h, List.mem_of_getElem? (i := 81) (by decide +kernel), List.mem_of_getElem? (i := 904) (by decide +kernel), ⟨by decide +kernel, by decide +kernel⟩, by decide +kernel, by decide⟩
theorem mvX11_told (own : String) (idx : Nat) (h : Cond.methodLink own idx yX11_told ∈ lw_tbl ∨ ∃ host, Cond.methodLinkNest own idx yX11_told host ∈ lw_tbl) : MV own idx mX11_told 1 := ⟨mkX11_told own idx h, List.mem_of_getElem? (i := 902) (by decide +kernel), List.mem_of_getElem? (i := 903) (by decide +kernel)⟩
theorem mkX11_digest (own : String) (idx : Nat) (h : Cond.methodLink own idx yX11_digest ∈ lw_tbl ∨ ∃ host, Cond.methodLinkNest own idx yX11_digest host ∈ lw_tbl) : MLk own idx mX11_digest 0 := ⟨h, List.mem_of_getElem? (i := 81) (by decide +kernel), List.mem_of_getElem? (i := 916) (by decide +kernel), ⟨by decide +kernel, by decide +kernel⟩, by decide +kernel, by decide⟩
theorem mvX11_digest (own : String) (idx : Nat) (h : Cond.methodLink own idx yX11_digest ∈ lw_tbl ∨ ∃ host, Cond.methodLinkNest own idx yX11_digest host ∈ lw_tbl) : MV own idx mX11_digest 0 := ⟨mkX11_digest own idx h, List.mem_of_getElem? (i := 914) (by decide +kernel), List.mem_of_getElem? (i := 915) (by decide +kernel)⟩
theorem mkX11_isWithin (own : String) (idx : Nat) (h : Cond.methodLink own idx yX11_isWithin ∈ lw_tbl ∨ ∃ host, Cond.methodLinkNest own idx yX11_isWithin host ∈ lw_tbl) : MLk own idx mX11_isWithin 3 := ⟨h, List.mem_of_getElem? (i := 81) (by decide +kernel), List.mem_of_getElem? (i := 388) (by decide +kernel), ⟨by decide +kernel, by decide +kernel⟩, by decide +kernel, by decide⟩
theorem msX11_isWithin (own : String) (idx : Nat) (h : Cond.methodLink own idx yX11_isWithin ∈ lw_tbl ∨ ∃ host, Cond.methodLinkNest own idx yX11_isWithin host ∈ lw_tbl) : MS own idx mX11_isWithin 3 := ⟨mkX11_isWithin own idx h, List.mem_of_getElem? (i := 387) (by decide +kernel)⟩
theorem mkX11_areWithin (own : String) (idx : Nat) (h : Cond.methodLink own idx yX11_areWithin ∈ lw_tbl ∨ ∃ host, Cond.methodLinkNest own idx yX11_areWithin host ∈ lw_tbl) : MLk own idx mX11_areWithin 5 := ⟨h, List.mem_of_getElem? (i := 81) (by decide +kernel), List.mem_of_getElem? (i := 385) (by decide +kernel), ⟨by decide +kernel, by decide +kernel⟩, by decide +kernel, by decide⟩
theorem msX11_areWithin (own : String) (idx : Nat) (h : Cond.methodLink own idx yX11_areWithin ∈ lw_tbl ∨ ∃ host, Cond.methodLinkNest own idx yX11_areWithin host ∈ lw_tbl) : MS own idx mX11_areWithin 5 := ⟨mkX11_areWithin own idx h, List.mem_of_getElem? (i := 384) (by decide +kernel)⟩
theorem mkX11_isSpot (own : String) (idx : Nat) (h : Cond.methodLink own idx yX11_isSpot ∈ lw_tbl ∨ ∃ host, Cond.methodLinkNest own idx yX11_isSpot host ∈ lw_tbl) : MLk own idx mX11_isSpot 1 := ⟨h, List.mem_of_getElem? (i := 81) (by decide +kernel), List.mem_of_getElem? (i := 720) (by decide +kernel), ⟨by decide +kernel, by decide +kernel⟩, by decide +kernel, by decide⟩
theorem msX11_isSpot (own : String) (idx : Nat) (h : Cond.methodLink own idx yX11_isSpot ∈ lw_tbl ∨ ∃ host, Cond.methodLinkNest own idx yX11_isSpot host ∈ lw_tbl) : MS own idx mX11_isSpot 1 := ⟨mkX11_isSpot own idx h, List.mem_of_getElem? (i := 719) (by decide +kernel)⟩
theorem mkX11_counted (own : String) (idx : Nat) (h : Cond.methodLink own idx yX11_counted ∈ lw_tbl ∨ ∃ host, Cond.methodLinkNest own idx yX11_counted host ∈ lw_tbl) : MLk own idx mX11_counted 1 := ⟨h, List.mem_of_getElem? (i := 81) (by decide +kernel), List.mem_of_getElem? (i := 428) (by decide +kernel), ⟨by decide +kernel, by decide +kernel⟩, by decide +kernel, by decide⟩
theorem mvX11_counted (own : String) (idx : Nat) (h : Cond.methodLink own idx yX11_counted ∈ lw_tbl ∨ ∃ host, Cond.methodLinkNest own idx yX11_counted host ∈ lw_tbl) : MV own idx mX11_counted 1 := ⟨mkX11_counted own idx h, List.mem_of_getElem? (i := 427) (by decide +kernel), List.mem_of_getElem? (i := 4) (by decide +kernel)⟩
theorem mkX11_undoable (own : String) (idx : Nat) (h : Cond.methodLink own idx yX11_undoable ∈ lw_tbl ∨ ∃ host, Cond.methodLinkNest own idx yX11_undoable host ∈ lw_tbl) : MLk own idx mX11_undoable 1 := ⟨h, List.mem_of_getElem? (i := 81) (by decide +kernel), List.mem_of_getElem? (i := 417) (by decide +kernel), ⟨by decide +kernel, by decide +kernel⟩, by decide +kernel, by decide⟩
theorem mvX11_undoable (own : String) (idx : Nat) (h : Cond.methodLink own idx yX11_undoable ∈ lw_tbl ∨ ∃ host, Cond.methodLinkNest own idx yX11_undoable host ∈ lw_tbl) : MV own idx mX11_undoable 1 := ⟨mkX11_undoable own idx h, List.mem_of_getElem? (i := 416) (by decide +kernel), List.mem_of_getElem? (i := 3) (by decide +kernel)⟩
theorem mkX11_execute (own : String) (idx : Nat) (h : Cond.methodLink own idx yX11_execute ∈ lw_tbl ∨ ∃ host, Cond.methodLinkNest own idx yX11_execute host ∈ lw_tbl) : MLk own idx mX11_execute 1 := ⟨h, List.mem_of_getElem? (i := 81) (by decide +kernel), List.mem_of_getElem? (i := 870) (by decide +kernel), ⟨by decide +kernel, by decide +kernel⟩, by decide +kernel, by decide⟩
theorem mvX11_execute (own : String) (idx : Nat) (h : Cond.methodLink own idx yX11_execute ∈ lw_tbl ∨ ∃ host, Cond.methodLinkNest own idx yX11_execute host ∈ lw_tbl) : MV own idx mX11_execute 1 := ⟨mkX11_execute own idx h, List.mem_of_getElem? (i := 869) (by decide +kernel), List.mem_of_getElem? (i := 23) (by decide +kernel)⟩
theorem mkX11_examineSentence (own : String) (idx : Nat) (h : Cond.methodLink own idx yX11_examineSentence ∈ lw_tbl ∨ ∃ host, Cond.methodLinkNest own idx yX11_examineSentence host ∈ lw_tbl) : MLk own idx mX11_examineSentence 0 := ⟨h, List.mem_of_getElem? (i := 81) (by decide +kernel), List.mem_of_getElem? (i := 745) (by decide +kernel), ⟨by decide +kernel, by decide +kernel⟩, by decide +kernel, by decide⟩
theorem mvX11_examineSentence (own : String) (idx : Nat) (h : Cond.methodLink own idx yX11_examineSentence ∈ lw_tbl ∨ ∃ host, Cond.methodLinkNest own idx yX11_examineSentence host ∈ lw_tbl) : MV own idx mX11_examineSentence 0 := ⟨mkX11_examineSentence own idx h, List.mem_of_getElem? (i := 744) (by decide +kernel), List.mem_of_getElem? (i := 13) (by decide +kernel)⟩
theorem mkX11_findBestArrangement (own : String) (idx : Nat) (h : Cond.methodLink own idx yX11_findBestArrangement ∈ lw_tbl ∨ ∃ host, Cond.methodLinkNest own idx yX11_findBestArrangement host ∈ lw_tbl) : MLk own idx mX11_findBestArrangement 0 := ⟨h, List.mem_of_getElem? (i := 81) (by decide +kernel), List.mem_of_getElem? (i := 796) (by decide +kernel), ⟨by decide +kernel, by decide +kernel⟩, by decide +kernel, by decide⟩
theorem mvX11_findBestArrangement (own : String) (idx : Nat) (h : Cond.methodLink own idx yX11_findBestArrangement ∈ lw_tbl ∨ ∃ host, Cond.methodLinkNest own idx yX11_findBestArrangement host ∈ lw_tbl) : MV own idx mX11_findBestArrangement 0 := ⟨mkX11_findBestArrangement own idx h, List.mem_of_getElem? (i := 795) (by decide +kernel), List.mem_of_getElem? (i := 16) (by decide +kernel)⟩
theorem mkX11_wordProperty (own : String) (idx : Nat) (h : Cond.methodLink own idx yX11_wordProperty ∈ lw_tbl ∨ ∃ host, Cond.methodLinkNest own idx yX11_wordProperty host ∈ lw_tbl) : MLk own idx mX11_wordProperty 2 := ⟨h, List.mem_of_getElem? (i := 81) (by decide +kernel), List.mem_of_getElem? (i := 728) (by decide +kernel), ⟨by decide +kernel, by decide +kernel⟩, by decide +kernel, by decide⟩
theorem mvX11_wordProperty (own : String) (idx : Nat) (h : Cond.methodLink own idx yX11_wordProperty ∈ lw_tbl ∨ ∃ host, Cond.methodLinkNest own idx yX11_wordProperty host ∈ lw_tbl) : MV own idx mX11_wordProperty 2 := ⟨mkX11_wordProperty own idx h, List.mem_of_getElem? (i := 727) (by decide +kernel), List.mem_of_getElem? (i := 12) (by decide +kernel)⟩
theorem mkX11_sentenceProperty (own : String) (idx : Nat) (h : Cond.methodLink own idx yX11_sentenceProperty ∈ lw_tbl ∨ ∃ host, Cond.methodLinkNest own idx yX11_sentenceProperty host ∈ lw_tbl) : MLk own idx mX11_sentenceProperty 1 := ⟨h, List.mem_of_getElem? (i := 81) (by decide +kernel), List.mem_of_getElem? (i := 766) (by decide +kernel), ⟨by decide +kernel, by decide +kernel⟩, by decide +kernel, by decide⟩
theorem mvX11_sentenceProperty (own : String) (idx : Nat) (h : Cond.methodLink own idx yX11_sentenceProperty ∈ lw_tbl ∨ ∃ host, Cond.methodLinkNest own idx yX11_sentenceProperty host ∈ lw_tbl) : MV own idx mX11_sentenceProperty 1 := ⟨mkX11_sentenceProperty own idx h, List.mem_of_getElem? (i := 765) (by decide +kernel), List.mem_of_getElem? (i := 15) (by decide +kernel)⟩
theorem mkX11_figure (own : String) (idx : Nat) (h : Cond.methodLink own idx yX11_figure ∈ lw_tbl ∨ ∃ host, Cond.methodLinkNest own idx yX11_figure host ∈ lw_tbl) : MLk own idx mX11_figure 1 := ⟨h, List.mem_of_getElem? (i := 81) (by decide +kernel), List.mem_of_getElem? (i := 908) (by decide +kernel), ⟨by decide +kernel, by decide +kernel⟩, by decide +kernel, by decide⟩
theorem mvX11_figure (own : String) (idx : Nat) (h : Cond.methodLink own idx yX11_figure ∈ lw_tbl ∨ ∃ host, Cond.methodLinkNest own idx yX11_figure host ∈ lw_tbl) : MV own idx mX11_figure 1 := ⟨mkX11_figure own idx h, List.mem_of_getElem? (i := 907) (by decide +kernel), List.mem_of_getElem? (i := 24) (by decide +kernel)⟩
theorem mkX11_mixed (own : String) (idx : Nat) (h : Cond.methodLink own idx yX11_mixed ∈ lw_tbl ∨ ∃ host, Cond.methodLinkNest own idx yX11_mixed host ∈ lw_tbl) : MLk own idx mX11_mixed 2 := ⟨h, List.mem_of_getElem? (i := 81) (by decide +kernel), List.mem_of_getElem? (i := 920) (by decide +kernel), ⟨by decide +kernel, by decide +kernel⟩, by decide +kernel, by decide⟩
theorem msX11_mixed (own : String) (idx : Nat) (h : Cond.methodLink own idx yX11_mixed ∈ lw_tbl ∨ ∃ host, Cond.methodLinkNest own idx yX11_mixed host ∈ lw_tbl) : MS own idx mX11_mixed 2 := ⟨mkX11_mixed own idx h, List.mem_of_getElem? (i := 919) (by decide +kernel)⟩
theorem mkX11_withSigns (own : String) (idx : Nat) (h : Cond.methodLink own idx yX11_withSigns ∈ lw_tbl ∨ ∃ host, Cond.methodLinkNest own idx yX11_withSigns host ∈ lw_tbl) : MLk own idx mX11_withSigns 1 := ⟨h, List.mem_of_getElem? (i := 81) (by decide +kernel), List.mem_of_getElem? (i := 925) (by decide +kernel), ⟨by decide +kernel, by decide +kernel⟩, by decide +kernel, by decide⟩
theorem mvX11_withSigns (own : String) (idx : Nat) (h : Cond.methodLink own idx yX11_withSigns ∈ lw_tbl ∨ ∃ host, Cond.methodLinkNest own idx yX11_withSigns host ∈ lw_tbl) : MV own idx mX11_withSigns 1 := ⟨mkX11_withSigns own idx h, List.mem_of_getElem? (i := 924) (by decide +kernel), List.mem_of_getElem? (i := 25) (by decide +kernel)⟩
theorem mkX11_withWords (own : String) (idx : Nat) (h : Cond.methodLink own idx yX11_withWords ∈ lw_tbl ∨ ∃ host, Cond.methodLinkNest own idx yX11_withWords host ∈ lw_tbl) : MLk own idx mX11_withWords 1 := ⟨h, List.mem_of_getElem? (i := 81) (by decide +kernel), List.mem_of_getElem? (i := 929) (by decide +kernel), ⟨by decide +kernel, by decide +kernel⟩, by decide +kernel, by decide⟩
theorem mvX11_withWords (own : String) (idx : Nat) (h : Cond.methodLink own idx yX11_withWords ∈ lw_tbl ∨ ∃ host, Cond.methodLinkNest own idx yX11_withWords host ∈ lw_tbl) : MV own idx mX11_withWords 1 := ⟨mkX11_withWords own idx h, List.mem_of_getElem? (i := 928) (by decide +kernel), List.mem_of_getElem? (i := 26) (by decide +kernel)⟩
theorem mkX12_init (own : String) (idx : Nat) (h : Cond.methodLink own idx yX12_init ∈ lw_tbl ∨ ∃ host, Cond.methodLinkNest own idx yX12_init host ∈ lw_tbl) : MLk own idx mX12_init 0 := ⟨h, List.mem_of_getElem? (i := 93) (by decide +kernel), List.mem_of_getElem? (i := 934) (by decide +kernel), ⟨by decide +kernel, by decide +kernel⟩, by decide +kernel, by decide⟩
theorem miX12_init (own : String) (idx : Nat) (h : Cond.methodLink own idx yX12_init ∈ lw_tbl ∨ ∃ host, Cond.methodLinkNest own idx yX12_init host ∈ lw_tbl) : MI own idx mX12_init 0 := ⟨mkX12_init own idx h, rfl, rfl, List.mem_of_getElem? (i := 933) (by decide +kernel)⟩
theorem mkX12_in (own : String) (idx : Nat) (h : Cond.methodLink own idx yX12_in ∈ lw_tbl ∨ ∃ host, Cond.methodLinkNest own idx yX12_in host ∈ lw_tbl) : MLk own idx mX12_in 3 := ⟨h, List.mem_of_getElem? (i := 93) (by decide +kernel), List.mem_of_getElem? (i := 993) (by decide +kernel), ⟨by decide +kernel, by decide +kernel⟩, by decide +kernel, by decide⟩
theorem msX12_in (own : String) (idx : Nat) (h : Cond.methodLink own idx yX12_in ∈ lw_tbl ∨ ∃ host, Cond.methodLinkNest own idx yX12_in host ∈ lw_tbl) : MS own idx mX12_in 3 := ⟨mkX12_in own idx h, List.mem_of_getElem? (i := 992) (by decide +kernel)⟩
theorem mkX12_has (own : String) (idx : Nat) (h : Cond.methodLink own idx yX12_has ∈ lw_tbl ∨ ∃ host, Cond.methodLinkNest own idx yX12_has host ∈ lw_tbl) : MLk own idx mX12_has 2 := ⟨h, List.mem_of_getElem? (i := 93) (by decide +kernel), List.mem_of_getElem? (i := 1127) (by decide +kernel), ⟨by decide +kernel, by decide +kernel⟩, by decide +kernel, by decide⟩
theorem msX12_has (own : String) (idx : Nat) (h : Cond.methodLink own idx yX12_has ∈ lw_tbl ∨ ∃ host, Cond.methodLinkNest own idx yX12_has host ∈ lw_tbl) : MS own idx mX12_has 2 := ⟨mkX12_has own idx h, List.mem_of_getElem? (i := 1126) (by decide +kernel)⟩
theorem mkX12_off (own : String) (idx : Nat) (h : Cond.methodLink own idx yX12_off ∈ lw_tbl ∨ ∃ host, Cond.methodLinkNest own idx yX12_off host ∈ lw_tbl) : MLk own idx mX12_off 2 := ⟨h, List.mem_of_getElem? (i := 93) (by decide +kernel), List.mem_of_getElem? (i := 1091) (by decide +kernel), ⟨by decide +kernel, by decide +kernel⟩, by decide +kernel, by decide⟩
theorem msX12_off (own : String) (idx : Nat) (h : Cond.methodLink own idx yX12_off ∈ lw_tbl ∨ ∃ host, Cond.methodLinkNest own idx yX12_off host ∈ lw_tbl) : MS own idx mX12_off 2 := ⟨mkX12_off own idx h, List.mem_of_getElem? (i := 1090) (by decide +kernel)⟩
theorem mkX12_refuses (own : String) (idx : Nat) (h : Cond.methodLink own idx yX12_refuses ∈ lw_tbl ∨ ∃ host, Cond.methodLinkNest own idx yX12_refuses host ∈ lw_tbl) : MLk own idx mX12_refuses 1 := ⟨h, List.mem_of_getElem? (i := 93) (by decide +kernel), List.mem_of_getElem? (i := 1006) (by decide +kernel), ⟨by decide +kernel, by decide +kernel⟩, by decide +kernel, by decide⟩
theorem mvX12_refuses (own : String) (idx : Nat) (h : Cond.methodLink own idx yX12_refuses ∈ lw_tbl ∨ ∃ host, Cond.methodLinkNest own idx yX12_refuses host ∈ lw_tbl) : MV own idx mX12_refuses 1 := ⟨mkX12_refuses own idx h, List.mem_of_getElem? (i := 1005) (by decide +kernel), List.mem_of_getElem? (i := 30) (by decide +kernel)⟩
theorem mkX12_copy (own : String) (idx : Nat) (h : Cond.methodLink own idx yX12_copy ∈ lw_tbl ∨ ∃ host, Cond.methodLinkNest own idx yX12_copy host ∈ lw_tbl) : MLk own idx mX12_copy 2 := ⟨h, List.mem_of_getElem? (i := 93) (by decide +kernel), List.mem_of_getElem? (i := 1014) (by decide +kernel), ⟨by decide +kernel, by decide +kernel⟩, by decide +kernel, by decide⟩
theorem mvX12_copy (own : String) (idx : Nat) (h : Cond.methodLink own idx yX12_copy ∈ lw_tbl ∨ ∃ host, Cond.methodLinkNest own idx yX12_copy host ∈ lw_tbl) : MV own idx mX12_copy 2 := ⟨mkX12_copy own idx h, List.mem_of_getElem? (i := 1013) (by decide +kernel), List.mem_of_getElem? (i := 32) (by decide +kernel)⟩
theorem mkX12_minds (own : String) (idx : Nat) (h : Cond.methodLink own idx yX12_minds ∈ lw_tbl ∨ ∃ host, Cond.methodLinkNest own idx yX12_minds host ∈ lw_tbl) : MLk own idx mX12_minds 0 := ⟨h, List.mem_of_getElem? (i := 93) (by decide +kernel), List.mem_of_getElem? (i := 1010) (by decide +kernel), ⟨by decide +kernel, by decide +kernel⟩, by decide +kernel, by decide⟩
theorem mvX12_minds (own : String) (idx : Nat) (h : Cond.methodLink own idx yX12_minds ∈ lw_tbl ∨ ∃ host, Cond.methodLinkNest own idx yX12_minds host ∈ lw_tbl) : MV own idx mX12_minds 0 := ⟨mkX12_minds own idx h, List.mem_of_getElem? (i := 1009) (by decide +kernel), List.mem_of_getElem? (i := 31) (by decide +kernel)⟩
theorem mkX12_isSign (own : String) (idx : Nat) (h : Cond.methodLink own idx yX12_isSign ∈ lw_tbl ∨ ∃ host, Cond.methodLinkNest own idx yX12_isSign host ∈ lw_tbl) : MLk own idx mX12_isSign 1 := ⟨h, List.mem_of_getElem? (i := 93) (by decide +kernel), List.mem_of_getElem? (i := 1026) (by decide +kernel), ⟨by decide +kernel, by decide +kernel⟩, by decide +kernel, by decide⟩
theorem mvX12_isSign (own : String) (idx : Nat) (h : Cond.methodLink own idx yX12_isSign ∈ lw_tbl ∨ ∃ host, Cond.methodLinkNest own idx yX12_isSign host ∈ lw_tbl) : MV own idx mX12_isSign 1 := ⟨mkX12_isSign own idx h, List.mem_of_getElem? (i := 1025) (by decide +kernel), List.mem_of_getElem? (i := 34) (by decide +kernel)⟩
theorem mkX12_part (own : String) (idx : Nat) (h : Cond.methodLink own idx yX12_part ∈ lw_tbl ∨ ∃ host, Cond.methodLinkNest own idx yX12_part host ∈ lw_tbl) : MLk own idx mX12_part 2 := ⟨h, List.mem_of_getElem? (i := 93) (by decide +kernel), List.mem_of_getElem? (i := 1002) (by decide +kernel), ⟨by decide +kernel, by decide +kernel⟩, by decide +kernel, by decide⟩
theorem mvX12_part (own : String) (idx : Nat) (h : Cond.methodLink own idx yX12_part ∈ lw_tbl ∨ ∃ host, Cond.methodLinkNest own idx yX12_part host ∈ lw_tbl) : MV own idx mX12_part 2 := ⟨mkX12_part own idx h, List.mem_of_getElem? (i := 1001) (by decide +kernel), List.mem_of_getElem? (i := 29) (by decide +kernel)⟩
theorem mkX12_isPart (own : String) (idx : Nat) (h : Cond.methodLink own idx yX12_isPart ∈ lw_tbl ∨ ∃ host, Cond.methodLinkNest own idx yX12_isPart host ∈ lw_tbl) : MLk own idx mX12_isPart 1 := ⟨h, List.mem_of_getElem? (i := 93) (by decide +kernel), List.mem_of_getElem? (i := 989) (by decide +kernel), ⟨by decide +kernel, by decide +kernel⟩, by decide +kernel, by decide⟩
theorem msX12_isPart (own : String) (idx : Nat) (h : Cond.methodLink own idx yX12_isPart ∈ lw_tbl ∨ ∃ host, Cond.methodLinkNest own idx yX12_isPart host ∈ lw_tbl) : MS own idx mX12_isPart 1 := ⟨mkX12_isPart own idx h, List.mem_of_getElem? (i := 988) (by decide +kernel)⟩
theorem mkX12_areParts (own : String) (idx : Nat) (h : Cond.methodLink own idx yX12_areParts ∈ lw_tbl ∨ ∃ host, Cond.methodLinkNest own idx yX12_areParts host ∈ lw_tbl) : MLk own idx mX12_areParts 4 := ⟨h, List.mem_of_getElem? (i := 93) (by decide +kernel), List.mem_of_getElem? (i := 986) (by decide +kernel), ⟨by decide +kernel, by decide +kernel⟩, by decide +kernel, by decide⟩
theorem msX12_areParts (own : String) (idx : Nat) (h : Cond.methodLink own idx yX12_areParts ∈ lw_tbl ∨ ∃ host, Cond.methodLinkNest own idx yX12_areParts host ∈ lw_tbl) : MS own idx mX12_areParts 4 := ⟨mkX12_areParts own idx h, List.mem_of_getElem? (i := 985) (by decide +kernel)⟩
theorem mkX12_signOf (own : String) (idx : Nat) (h : Cond.methodLink own idx yX12_signOf ∈ lw_tbl ∨ ∃ host, Cond.methodLinkNest own idx yX12_signOf host ∈ lw_tbl) : MLk own idx mX12_signOf 5 := ⟨h, List.mem_of_getElem? (i := 93) (by decide +kernel), List.mem_of_getElem? (i := 998) (by decide +kernel), ⟨by decide +kernel, by decide +kernel⟩, by decide +kernel, by decide⟩
theorem mvX12_signOf (own : String) (idx : Nat) (h : Cond.methodLink own idx yX12_signOf ∈ lw_tbl ∨ ∃ host, Cond.methodLinkNest own idx yX12_signOf host ∈ lw_tbl) : MV own idx mX12_signOf 5 := ⟨mkX12_signOf own idx h, List.mem_of_getElem? (i := 997) (by decide +kernel), List.mem_of_getElem? (i := 28) (by decide +kernel)⟩
theorem mkX12_canSign (own : String) (idx : Nat) (h : Cond.methodLink own idx yX12_canSign ∈ lw_tbl ∨ ∃ host, Cond.methodLinkNest own idx yX12_canSign host ∈ lw_tbl) : MLk own idx mX12_canSign 5 := ⟨h, List.mem_of_getElem? (i := 93) (by decide +kernel), List.mem_of_getElem? (i := 983) (by decide +kernel), ⟨by decide +kernel, by decide +kernel⟩, by decide +kernel, by decide⟩
theorem mvX12_canSign (own : String) (idx : Nat) (h : Cond.methodLink own idx yX12_canSign ∈ lw_tbl ∨ ∃ host, Cond.methodLinkNest own idx yX12_canSign host ∈ lw_tbl) : MV own idx mX12_canSign 5 := ⟨mkX12_canSign own idx h, List.mem_of_getElem? (i := 982) (by decide +kernel), List.mem_of_getElem? (i := 27) (by decide +kernel)⟩
theorem mkX12_adds (own : String) (idx : Nat) (h : Cond.methodLink own idx yX12_adds ∈ lw_tbl ∨ ∃ host, Cond.methodLinkNest own idx yX12_adds host ∈ lw_tbl) : MLk own idx mX12_adds 5 := ⟨h, List.mem_of_getElem? (i := 93) (by decide +kernel), List.mem_of_getElem? (i := 1018) (by decide +kernel), ⟨by decide +kernel, by decide +kernel⟩, by decide +kernel, by decide⟩
theorem mvX12_adds (own : String) (idx : Nat) (h : Cond.methodLink own idx yX12_adds ∈ lw_tbl ∨ ∃ host, Cond.methodLinkNest own idx yX12_adds host ∈ lw_tbl) : MV own idx mX12_adds 5 := ⟨mkX12_adds own idx h, List.mem_of_getElem? (i := 1017) (by decide +kernel), List.mem_of_getElem? (i := 33) (by decide +kernel)⟩
theorem mkX12_sign (own : String) (idx : Nat) (h : Cond.methodLink own idx yX12_sign ∈ lw_tbl ∨ ∃ host, Cond.methodLinkNest own idx yX12_sign host ∈ lw_tbl) : MLk own idx mX12_sign 5 := ⟨h, List.mem_of_getElem? (i := 93) (by decide +kernel), List.mem_of_getElem? (i := 979) (by decide +kernel), ⟨by decide +kernel, by decide +kernel⟩, by decide +kernel, by decide⟩
theorem mvX12_sign (own : String) (idx : Nat) (h : Cond.methodLink own idx yX12_sign ∈ lw_tbl ∨ ∃ host, Cond.methodLinkNest own idx yX12_sign host ∈ lw_tbl) : MV own idx mX12_sign 5 := ⟨mkX12_sign own idx h, List.mem_of_getElem? (i := 977) (by decide +kernel), List.mem_of_getElem? (i := 978) (by decide +kernel)⟩
theorem mkX12_becomes (own : String) (idx : Nat) (h : Cond.methodLink own idx yX12_becomes ∈ lw_tbl ∨ ∃ host, Cond.methodLinkNest own idx yX12_becomes host ∈ lw_tbl) : MLk own idx mX12_becomes 3 := ⟨h, List.mem_of_getElem? (i := 93) (by decide +kernel), List.mem_of_getElem? (i := 1022) (by decide +kernel), ⟨by decide +kernel, by decide +kernel⟩, by decide +kernel, by decide⟩
theorem mvX12_becomes (own : String) (idx : Nat) (h : Cond.methodLink own idx yX12_becomes ∈ lw_tbl ∨ ∃ host, Cond.methodLinkNest own idx yX12_becomes host ∈ lw_tbl) : MV own idx mX12_becomes 3 := ⟨mkX12_becomes own idx h, List.mem_of_getElem? (i := 1020) (by decide +kernel), List.mem_of_getElem? (i := 1021) (by decide +kernel)⟩
theorem mkX12_wordsWith (own : String) (idx : Nat) (h : Cond.methodLink own idx yX12_wordsWith ∈ lw_tbl ∨ ∃ host, Cond.methodLinkNest own idx yX12_wordsWith host ∈ lw_tbl) : MLk own idx mX12_wordsWith 1 := ⟨h, List.mem_of_getElem? (i := 93) (by decide +kernel), List.mem_of_getElem? (i := 1039) (by decide +kernel), ⟨by decide +kernel, by decide +kernel⟩, by decide +kernel, by decide⟩
theorem mvX12_wordsWith (own : String) (idx : Nat) (h : Cond.methodLink own idx yX12_wordsWith ∈ lw_tbl ∨ ∃ host, Cond.methodLinkNest own idx yX12_wordsWith host ∈ lw_tbl) : MV own idx mX12_wordsWith 1 := ⟨mkX12_wordsWith own idx h, List.mem_of_getElem? (i := 1038) (by decide +kernel), List.mem_of_getElem? (i := 36) (by decide +kernel)⟩
theorem mkX12_canDrop (own : String) (idx : Nat) (h : Cond.methodLink own idx yX12_canDrop ∈ lw_tbl ∨ ∃ host, Cond.methodLinkNest own idx yX12_canDrop host ∈ lw_tbl) : MLk own idx mX12_canDrop 1 := ⟨h, List.mem_of_getElem? (i := 93) (by decide +kernel), List.mem_of_getElem? (i := 1035) (by decide +kernel), ⟨by decide +kernel, by decide +kernel⟩, by decide +kernel, by decide⟩
theorem mvX12_canDrop (own : String) (idx : Nat) (h : Cond.methodLink own idx yX12_canDrop ∈ lw_tbl ∨ ∃ host, Cond.methodLinkNest own idx yX12_canDrop host ∈ lw_tbl) : MV own idx mX12_canDrop 1 := ⟨mkX12_canDrop own idx h, List.mem_of_getElem? (i := 1034) (by decide +kernel), List.mem_of_getElem? (i := 35) (by decide +kernel)⟩
theorem mkX12_goes (own : String) (idx : Nat) (h : Cond.methodLink own idx yX12_goes ∈ lw_tbl ∨ ∃ host, Cond.methodLinkNest own idx yX12_goes host ∈ lw_tbl) : MLk own idx mX12_goes 1 := ⟨h, List.mem_of_getElem? (i := 93) (by decide +kernel), List.mem_of_getElem? (i := 1043) (by decide +kernel), ⟨by decide +kernel, by decide +kernel⟩, by decide +kernel, by decide⟩
theorem mvX12_goes (own : String) (idx : Nat) (h : Cond.methodLink own idx yX12_goes ∈ lw_tbl ∨ ∃ host, Cond.methodLinkNest own idx yX12_goes host ∈ lw_tbl) : MV own idx mX12_goes 1 := ⟨mkX12_goes own idx h, List.mem_of_getElem? (i := 1042) (by decide +kernel), List.mem_of_getElem? (i := 37) (by decide +kernel)⟩
theorem mkX12_drops (own : String) (idx : Nat) (h : Cond.methodLink own idx yX12_drops ∈ lw_tbl ∨ ∃ host, Cond.methodLinkNest own idx yX12_drops host ∈ lw_tbl) : MLk own idx mX12_drops 1 := ⟨h, List.mem_of_getElem? (i := 93) (by decide +kernel), List.mem_of_getElem? (i := 1031) (by decide +kernel), ⟨by decide +kernel, by decide +kernel⟩, by decide +kernel, by decide⟩
theorem mvX12_drops (own : String) (idx : Nat) (h : Cond.methodLink own idx yX12_drops ∈ lw_tbl ∨ ∃ host, Cond.methodLinkNest own idx yX12_drops host ∈ lw_tbl) : MV own idx mX12_drops 1 := ⟨mkX12_drops own idx h, List.mem_of_getElem? (i := 1029) (by decide +kernel), List.mem_of_getElem? (i := 1030) (by decide +kernel)⟩
theorem mkX12_isWeight (own : String) (idx : Nat) (h : Cond.methodLink own idx yX12_isWeight ∈ lw_tbl ∨ ∃ host, Cond.methodLinkNest own idx yX12_isWeight host ∈ lw_tbl) : MLk own idx mX12_isWeight 2 := ⟨h, List.mem_of_getElem? (i := 93) (by decide +kernel), List.mem_of_getElem? (i := 1050) (by decide +kernel), ⟨by decide +kernel, by decide +kernel⟩, by decide +kernel, by decide⟩
theorem msX12_isWeight (own : String) (idx : Nat) (h : Cond.methodLink own idx yX12_isWeight ∈ lw_tbl ∨ ∃ host, Cond.methodLinkNest own idx yX12_isWeight host ∈ lw_tbl) : MS own idx mX12_isWeight 2 := ⟨mkX12_isWeight own idx h, List.mem_of_getElem? (i := 1049) (by decide +kernel)⟩
theorem mkX12_weight (own : String) (idx : Nat) (h : Cond.methodLink own idx yX12_weight ∈ lw_tbl ∨ ∃ host, Cond.methodLinkNest own idx yX12_weight host ∈ lw_tbl) : MLk own idx mX12_weight 2 := ⟨h, List.mem_of_getElem? (i := 93) (by decide +kernel), List.mem_of_getElem? (i := 1047) (by decide +kernel), ⟨by decide +kernel, by decide +kernel⟩, by decide +kernel, by decide⟩
theorem mvX12_weight (own : String) (idx : Nat) (h : Cond.methodLink own idx yX12_weight ∈ lw_tbl ∨ ∃ host, Cond.methodLinkNest own idx yX12_weight host ∈ lw_tbl) : MV own idx mX12_weight 2 := ⟨mkX12_weight own idx h, List.mem_of_getElem? (i := 1045) (by decide +kernel), List.mem_of_getElem? (i := 1046) (by decide +kernel)⟩
theorem mkX12_next (own : String) (idx : Nat) (h : Cond.methodLink own idx yX12_next ∈ lw_tbl ∨ ∃ host, Cond.methodLinkNest own idx yX12_next host ∈ lw_tbl) : MLk own idx mX12_next 0 := ⟨h, List.mem_of_getElem? (i := 93) (by decide +kernel), List.mem_of_getElem? (i := 1061) (by decide +kernel), ⟨by decide +kernel, by decide +kernel⟩, by decide +kernel, by decide⟩
theorem mvX12_next (own : String) (idx : Nat) (h : Cond.methodLink own idx yX12_next ∈ lw_tbl ∨ ∃ host, Cond.methodLinkNest own idx yX12_next host ∈ lw_tbl) : MV own idx mX12_next 0 := ⟨mkX12_next own idx h, List.mem_of_getElem? (i := 1060) (by decide +kernel), List.mem_of_getElem? (i := 38) (by decide +kernel)⟩
theorem mkX12_draws (own : String) (idx : Nat) (h : Cond.methodLink own idx yX12_draws ∈ lw_tbl ∨ ∃ host, Cond.methodLinkNest own idx yX12_draws host ∈ lw_tbl) : MLk own idx mX12_draws 2 := ⟨h, List.mem_of_getElem? (i := 93) (by decide +kernel), List.mem_of_getElem? (i := 1055) (by decide +kernel), ⟨by decide +kernel, by decide +kernel⟩, by decide +kernel, by decide⟩
theorem mvX12_draws (own : String) (idx : Nat) (h : Cond.methodLink own idx yX12_draws ∈ lw_tbl ∨ ∃ host, Cond.methodLinkNest own idx yX12_draws host ∈ lw_tbl) : MV own idx mX12_draws 2 := ⟨mkX12_draws own idx h, List.mem_of_getElem? (i := 1053) (by decide +kernel), List.mem_of_getElem? (i := 1054) (by decide +kernel)⟩
theorem mkX12_of (own : String) (idx : Nat) (h : Cond.methodLink own idx yX12_of ∈ lw_tbl ∨ ∃ host, Cond.methodLinkNest own idx yX12_of host ∈ lw_tbl) : MLk own idx mX12_of 2 := ⟨h, List.mem_of_getElem? (i := 93) (by decide +kernel), List.mem_of_getElem? (i := 1070) (by decide +kernel), ⟨by decide +kernel, by decide +kernel⟩, by decide +kernel, by decide⟩
theorem mvX12_of (own : String) (idx : Nat) (h : Cond.methodLink own idx yX12_of ∈ lw_tbl ∨ ∃ host, Cond.methodLinkNest own idx yX12_of host ∈ lw_tbl) : MV own idx mX12_of 2 := ⟨mkX12_of own idx h, List.mem_of_getElem? (i := 1068) (by decide +kernel), List.mem_of_getElem? (i := 1069) (by decide +kernel)⟩
theorem mkX12_ones (own : String) (idx : Nat) (h : Cond.methodLink own idx yX12_ones ∈ lw_tbl ∨ ∃ host, Cond.methodLinkNest own idx yX12_ones host ∈ lw_tbl) : MLk own idx mX12_ones 1 := ⟨h, List.mem_of_getElem? (i := 93) (by decide +kernel), List.mem_of_getElem? (i := 1088) (by decide +kernel), ⟨by decide +kernel, by decide +kernel⟩, by decide +kernel, by decide⟩
theorem msX12_ones (own : String) (idx : Nat) (h : Cond.methodLink own idx yX12_ones ∈ lw_tbl ∨ ∃ host, Cond.methodLinkNest own idx yX12_ones host ∈ lw_tbl) : MS own idx mX12_ones 1 := ⟨mkX12_ones own idx h, List.mem_of_getElem? (i := 1087) (by decide +kernel)⟩
theorem mkX12_apartBy (own : String) (idx : Nat) (h : Cond.methodLink own idx yX12_apartBy ∈ lw_tbl ∨ ∃ host, Cond.methodLinkNest own idx yX12_apartBy host ∈ lw_tbl) : MLk own idx mX12_apartBy 3 := ⟨h, List.mem_of_getElem? (i := 93) (by decide +kernel), List.mem_of_getElem? (i := 1085) (by decide +kernel), ⟨by decide +kernel, by decide +kernel⟩, by decide +kernel, by decide⟩
theorem msX12_apartBy (own : String) (idx : Nat) (h : Cond.methodLink own idx yX12_apartBy ∈ lw_tbl ∨ ∃ host, Cond.methodLinkNest own idx yX12_apartBy host ∈ lw_tbl) : MS own idx mX12_apartBy 3 := ⟨mkX12_apartBy own idx h, List.mem_of_getElem? (i := 1084) (by decide +kernel)⟩
theorem mkX12_apartOf (own : String) (idx : Nat) (h : Cond.methodLink own idx yX12_apartOf ∈ lw_tbl ∨ ∃ host, Cond.methodLinkNest own idx yX12_apartOf host ∈ lw_tbl) : MLk own idx mX12_apartOf 5 := ⟨h, List.mem_of_getElem? (i := 93) (by decide +kernel), List.mem_of_getElem? (i := 1082) (by decide +kernel), ⟨by decide +kernel, by decide +kernel⟩, by decide +kernel, by decide⟩
theorem mvX12_apartOf (own : String) (idx : Nat) (h : Cond.methodLink own idx yX12_apartOf ∈ lw_tbl ∨ ∃ host, Cond.methodLinkNest own idx yX12_apartOf host ∈ lw_tbl) : MV own idx mX12_apartOf 5 := ⟨mkX12_apartOf own idx h, List.mem_of_getElem? (i := 1081) (by decide +kernel), List.mem_of_getElem? (i := 40) (by decide +kernel)⟩
theorem mkX12_between (own : String) (idx : Nat) (h : Cond.methodLink own idx yX12_between ∈ lw_tbl ∨ ∃ host, Cond.methodLinkNest own idx yX12_between host ∈ lw_tbl) : MLk own idx mX12_between 2 := ⟨h, List.mem_of_getElem? (i := 93) (by decide +kernel), List.mem_of_getElem? (i := 1078) (by decide +kernel), ⟨by decide +kernel, by decide +kernel⟩, by decide +kernel, by decide⟩
theorem mvX12_between (own : String) (idx : Nat) (h : Cond.methodLink own idx yX12_between ∈ lw_tbl ∨ ∃ host, Cond.methodLinkNest own idx yX12_between host ∈ lw_tbl) : MV own idx mX12_between 2 := ⟨mkX12_between own idx h, List.mem_of_getElem? (i := 1077) (by decide +kernel), List.mem_of_getElem? (i := 39) (by decide +kernel)⟩
theorem mkX12_apart (own : String) (idx : Nat) (h : Cond.methodLink own idx yX12_apart ∈ lw_tbl ∨ ∃ host, Cond.methodLinkNest own idx yX12_apart host ∈ lw_tbl) : MLk own idx mX12_apart 3 := ⟨h, List.mem_of_getElem? (i := 93) (by decide +kernel), List.mem_of_getElem? (i := 1074) (by decide +kernel), ⟨by decide +kernel, by decide +kernel⟩, by decide +kernel, by decide⟩
theorem mvX12_apart (own : String) (idx : Nat) (h : Cond.methodLink own idx yX12_apart ∈ lw_tbl ∨ ∃ host, Cond.methodLinkNest own idx yX12_apart host ∈ lw_tbl) : MV own idx mX12_apart 3 := ⟨mkX12_apart own idx h, List.mem_of_getElem? (i := 1072) (by decide +kernel), List.mem_of_getElem? (i := 1073) (by decide +kernel)⟩
theorem mkX12_isAsked (own : String) (idx : Nat) (h : Cond.methodLink own idx yX12_isAsked ∈ lw_tbl ∨ ∃ host, Cond.methodLinkNest own idx yX12_isAsked host ∈ lw_tbl) : MLk own idx mX12_isAsked 1 := ⟨h, List.mem_of_getElem? (i := 93) (by decide +kernel), List.mem_of_getElem? (i := 1098) (by decide +kernel), ⟨by decide +kernel, by decide +kernel⟩, by decide +kernel, by decide⟩
theorem msX12_isAsked (own : String) (idx : Nat) (h : Cond.methodLink own idx yX12_isAsked ∈ lw_tbl ∨ ∃ host, Cond.methodLinkNest own idx yX12_isAsked host ∈ lw_tbl) : MS own idx mX12_isAsked 1 := ⟨mkX12_isAsked own idx h, List.mem_of_getElem? (i := 1097) (by decide +kernel)⟩
theorem mkX12_isSo (own : String) (idx : Nat) (h : Cond.methodLink own idx yX12_isSo ∈ lw_tbl ∨ ∃ host, Cond.methodLinkNest own idx yX12_isSo host ∈ lw_tbl) : MLk own idx mX12_isSo 3 := ⟨h, List.mem_of_getElem? (i := 93) (by decide +kernel), List.mem_of_getElem? (i := 1103) (by decide +kernel), ⟨by decide +kernel, by decide +kernel⟩, by decide +kernel, by decide⟩
theorem mvX12_isSo (own : String) (idx : Nat) (h : Cond.methodLink own idx yX12_isSo ∈ lw_tbl ∨ ∃ host, Cond.methodLinkNest own idx yX12_isSo host ∈ lw_tbl) : MV own idx mX12_isSo 3 := ⟨mkX12_isSo own idx h, List.mem_of_getElem? (i := 1102) (by decide +kernel), List.mem_of_getElem? (i := 41) (by decide +kernel)⟩
theorem mkX12_look (own : String) (idx : Nat) (h : Cond.methodLink own idx yX12_look ∈ lw_tbl ∨ ∃ host, Cond.methodLinkNest own idx yX12_look host ∈ lw_tbl) : MLk own idx mX12_look 4 := ⟨h, List.mem_of_getElem? (i := 93) (by decide +kernel), List.mem_of_getElem? (i := 1095) (by decide +kernel), ⟨by decide +kernel, by decide +kernel⟩, by decide +kernel, by decide⟩
theorem mvX12_look (own : String) (idx : Nat) (h : Cond.methodLink own idx yX12_look ∈ lw_tbl ∨ ∃ host, Cond.methodLinkNest own idx yX12_look host ∈ lw_tbl) : MV own idx mX12_look 4 := ⟨mkX12_look own idx h, List.mem_of_getElem? (i := 1093) (by decide +kernel), List.mem_of_getElem? (i := 1094) (by decide +kernel)⟩
theorem mkX12_nearOf (own : String) (idx : Nat) (h : Cond.methodLink own idx yX12_nearOf ∈ lw_tbl ∨ ∃ host, Cond.methodLinkNest own idx yX12_nearOf host ∈ lw_tbl) : MLk own idx mX12_nearOf 2 := ⟨h, List.mem_of_getElem? (i := 93) (by decide +kernel), List.mem_of_getElem? (i := 1112) (by decide +kernel), ⟨by decide +kernel, by decide +kernel⟩, by decide +kernel, by decide⟩
theorem mvX12_nearOf (own : String) (idx : Nat) (h : Cond.methodLink own idx yX12_nearOf ∈ lw_tbl ∨ ∃ host, Cond.methodLinkNest own idx yX12_nearOf host ∈ lw_tbl) : MV own idx mX12_nearOf 2 := ⟨mkX12_nearOf own idx h, List.mem_of_getElem? (i := 1111) (by decide +kernel), List.mem_of_getElem? (i := 42) (by decide +kernel)⟩
theorem mkX12_near (own : String) (idx : Nat) (h : Cond.methodLink own idx yX12_near ∈ lw_tbl ∨ ∃ host, Cond.methodLinkNest own idx yX12_near host ∈ lw_tbl) : MLk own idx mX12_near 2 := ⟨h, List.mem_of_getElem? (i := 93) (by decide +kernel), List.mem_of_getElem? (i := 1107) (by decide +kernel), ⟨by decide +kernel, by decide +kernel⟩, by decide +kernel, by decide⟩
theorem mvX12_near (own : String) (idx : Nat) (h : Cond.methodLink own idx yX12_near ∈ lw_tbl ∨ ∃ host, Cond.methodLinkNest own idx yX12_near host ∈ lw_tbl) : MV own idx mX12_near 2 := ⟨mkX12_near own idx h, List.mem_of_getElem? (i := 1105) (by decide +kernel), List.mem_of_getElem? (i := 1106) (by decide +kernel)⟩
theorem mkX12_nearest (own : String) (idx : Nat) (h : Cond.methodLink own idx yX12_nearest ∈ lw_tbl ∨ ∃ host, Cond.methodLinkNest own idx yX12_nearest host ∈ lw_tbl) : MLk own idx mX12_nearest 4 := ⟨h, List.mem_of_getElem? (i := 93) (by decide +kernel), List.mem_of_getElem? (i := 1116) (by decide +kernel), ⟨by decide +kernel, by decide +kernel⟩, by decide +kernel, by decide⟩
theorem mvX12_nearest (own : String) (idx : Nat) (h : Cond.methodLink own idx yX12_nearest ∈ lw_tbl ∨ ∃ host, Cond.methodLinkNest own idx yX12_nearest host ∈ lw_tbl) : MV own idx mX12_nearest 4 := ⟨mkX12_nearest own idx h, List.mem_of_getElem? (i := 1114) (by decide +kernel), List.mem_of_getElem? (i := 1115) (by decide +kernel)⟩
theorem mkX12_sorts (own : String) (idx : Nat) (h : Cond.methodLink own idx yX12_sorts ∈ lw_tbl ∨ ∃ host, Cond.methodLinkNest own idx yX12_sorts host ∈ lw_tbl) : MLk own idx mX12_sorts 1 := ⟨h, List.mem_of_getElem? (i := 93) (by decide +kernel), List.mem_of_getElem? (i := 1120) (by decide +kernel), ⟨by decide +kernel, by decide +kernel⟩, by decide +kernel, by decide⟩
theorem mvX12_sorts (own : String) (idx : Nat) (h : Cond.methodLink own idx yX12_sorts ∈ lw_tbl ∨ ∃ host, Cond.methodLinkNest own idx yX12_sorts host ∈ lw_tbl) : MV own idx mX12_sorts 1 := ⟨mkX12_sorts own idx h, List.mem_of_getElem? (i := 1118) (by decide +kernel), List.mem_of_getElem? (i := 1119) (by decide +kernel)⟩
theorem mkX12_group (own : String) (idx : Nat) (h : Cond.methodLink own idx yX12_group ∈ lw_tbl ∨ ∃ host, Cond.methodLinkNest own idx yX12_group host ∈ lw_tbl) : MLk own idx mX12_group 2 := ⟨h, List.mem_of_getElem? (i := 93) (by decide +kernel), List.mem_of_getElem? (i := 1131) (by decide +kernel), ⟨by decide +kernel, by decide +kernel⟩, by decide +kernel, by decide⟩
theorem mvX12_group (own : String) (idx : Nat) (h : Cond.methodLink own idx yX12_group ∈ lw_tbl ∨ ∃ host, Cond.methodLinkNest own idx yX12_group host ∈ lw_tbl) : MV own idx mX12_group 2 := ⟨mkX12_group own idx h, List.mem_of_getElem? (i := 1130) (by decide +kernel), List.mem_of_getElem? (i := 43) (by decide +kernel)⟩
theorem mkX12_groups (own : String) (idx : Nat) (h : Cond.methodLink own idx yX12_groups ∈ lw_tbl ∨ ∃ host, Cond.methodLinkNest own idx yX12_groups host ∈ lw_tbl) : MLk own idx mX12_groups 2 := ⟨h, List.mem_of_getElem? (i := 93) (by decide +kernel), List.mem_of_getElem? (i := 1124) (by decide +kernel), ⟨by decide +kernel, by decide +kernel⟩, by decide +kernel, by decide⟩
theorem mvX12_groups (own : String) (idx : Nat) (h : Cond.methodLink own idx yX12_groups ∈ lw_tbl ∨ ∃ host, Cond.methodLinkNest own idx yX12_groups host ∈ lw_tbl) : MV own idx mX12_groups 2 := ⟨mkX12_groups own idx h, List.mem_of_getElem? (i := 1122) (by decide +kernel), List.mem_of_getElem? (i := 1123) (by decide +kernel)⟩
theorem mkX12_unlike (own : String) (idx : Nat) (h : Cond.methodLink own idx yX12_unlike ∈ lw_tbl ∨ ∃ host, Cond.methodLinkNest own idx yX12_unlike host ∈ lw_tbl) : MLk own idx mX12_unlike 2 := ⟨h, List.mem_of_getElem? (i := 93) (by decide +kernel), List.mem_of_getElem? (i := 1143) (by decide +kernel), ⟨by decide +kernel, by decide +kernel⟩, by decide +kernel, by decide⟩
theorem mvX12_unlike (own : String) (idx : Nat) (h : Cond.methodLink own idx yX12_unlike ∈ lw_tbl ∨ ∃ host, Cond.methodLinkNest own idx yX12_unlike host ∈ lw_tbl) : MV own idx mX12_unlike 2 := ⟨mkX12_unlike own idx h, List.mem_of_getElem? (i := 1142) (by decide +kernel), List.mem_of_getElem? (i := 45) (by decide +kernel)⟩
theorem mkX12_twinsBy (own : String) (idx : Nat) (h : Cond.methodLink own idx yX12_twinsBy ∈ lw_tbl ∨ ∃ host, Cond.methodLinkNest own idx yX12_twinsBy host ∈ lw_tbl) : MLk own idx mX12_twinsBy 1 := ⟨h, List.mem_of_getElem? (i := 93) (by decide +kernel), List.mem_of_getElem? (i := 1139) (by decide +kernel), ⟨by decide +kernel, by decide +kernel⟩, by decide +kernel, by decide⟩
theorem mvX12_twinsBy (own : String) (idx : Nat) (h : Cond.methodLink own idx yX12_twinsBy ∈ lw_tbl ∨ ∃ host, Cond.methodLinkNest own idx yX12_twinsBy host ∈ lw_tbl) : MV own idx mX12_twinsBy 1 := ⟨mkX12_twinsBy own idx h, List.mem_of_getElem? (i := 1138) (by decide +kernel), List.mem_of_getElem? (i := 44) (by decide +kernel)⟩
theorem mkX12_twins (own : String) (idx : Nat) (h : Cond.methodLink own idx yX12_twins ∈ lw_tbl ∨ ∃ host, Cond.methodLinkNest own idx yX12_twins host ∈ lw_tbl) : MLk own idx mX12_twins 1 := ⟨h, List.mem_of_getElem? (i := 93) (by decide +kernel), List.mem_of_getElem? (i := 1135) (by decide +kernel), ⟨by decide +kernel, by decide +kernel⟩, by decide +kernel, by decide⟩
theorem mvX12_twins (own : String) (idx : Nat) (h : Cond.methodLink own idx yX12_twins ∈ lw_tbl ∨ ∃ host, Cond.methodLinkNest own idx yX12_twins host ∈ lw_tbl) : MV own idx mX12_twins 1 := ⟨mkX12_twins own idx h, List.mem_of_getElem? (i := 1133) (by decide +kernel), List.mem_of_getElem? (i := 1134) (by decide +kernel)⟩
theorem mkX12_isEnough (own : String) (idx : Nat) (h : Cond.methodLink own idx yX12_isEnough ∈ lw_tbl ∨ ∃ host, Cond.methodLinkNest own idx yX12_isEnough host ∈ lw_tbl) : MLk own idx mX12_isEnough 1 := ⟨h, List.mem_of_getElem? (i := 93) (by decide +kernel), List.mem_of_getElem? (i := 1156) (by decide +kernel), ⟨by decide +kernel, by decide +kernel⟩, by decide +kernel, by decide⟩
theorem mvX12_isEnough (own : String) (idx : Nat) (h : Cond.methodLink own idx yX12_isEnough ∈ lw_tbl ∨ ∃ host, Cond.methodLinkNest own idx yX12_isEnough host ∈ lw_tbl) : MV own idx mX12_isEnough 1 := ⟨mkX12_isEnough own idx h, List.mem_of_getElem? (i := 1155) (by decide +kernel), List.mem_of_getElem? (i := 47) (by decide +kernel)⟩
theorem mkX12_leastEnough (own : String) (idx : Nat) (h : Cond.methodLink own idx yX12_leastEnough ∈ lw_tbl ∨ ∃ host, Cond.methodLinkNest own idx yX12_leastEnough host ∈ lw_tbl) : MLk own idx mX12_leastEnough 0 := ⟨h, List.mem_of_getElem? (i := 93) (by decide +kernel), List.mem_of_getElem? (i := 1152) (by decide +kernel), ⟨by decide +kernel, by decide +kernel⟩, by decide +kernel, by decide⟩
theorem mvX12_leastEnough (own : String) (idx : Nat) (h : Cond.methodLink own idx yX12_leastEnough ∈ lw_tbl ∨ ∃ host, Cond.methodLinkNest own idx yX12_leastEnough host ∈ lw_tbl) : MV own idx mX12_leastEnough 0 := ⟨mkX12_leastEnough own idx h, List.mem_of_getElem? (i := 1151) (by decide +kernel), List.mem_of_getElem? (i := 46) (by decide +kernel)⟩
theorem mkX12_enough (own : String) (idx : Nat) (h : Cond.methodLink own idx yX12_enough ∈ lw_tbl ∨ ∃ host, Cond.methodLinkNest own idx yX12_enough host ∈ lw_tbl) : MLk own idx mX12_enough 1 := ⟨h, List.mem_of_getElem? (i := 93) (by decide +kernel), List.mem_of_getElem? (i := 1147) (by decide +kernel), ⟨by decide +kernel, by decide +kernel⟩, by decide +kernel, by decide⟩
theorem mvX12_enough (own : String) (idx : Nat) (h : Cond.methodLink own idx yX12_enough ∈ lw_tbl ∨ ∃ host, Cond.methodLinkNest own idx yX12_enough host ∈ lw_tbl) : MV own idx mX12_enough 1 := ⟨mkX12_enough own idx h, List.mem_of_getElem? (i := 1145) (by decide +kernel), List.mem_of_getElem? (i := 1146) (by decide +kernel)⟩
theorem mkX12_span (own : String) (idx : Nat) (h : Cond.methodLink own idx yX12_span ∈ lw_tbl ∨ ∃ host, Cond.methodLinkNest own idx yX12_span host ∈ lw_tbl) : MLk own idx mX12_span 1 := ⟨h, List.mem_of_getElem? (i := 93) (by decide +kernel), List.mem_of_getElem? (i := 1160) (by decide +kernel), ⟨by decide +kernel, by decide +kernel⟩, by decide +kernel, by decide⟩
theorem mvX12_span (own : String) (idx : Nat) (h : Cond.methodLink own idx yX12_span ∈ lw_tbl ∨ ∃ host, Cond.methodLinkNest own idx yX12_span host ∈ lw_tbl) : MV own idx mX12_span 1 := ⟨mkX12_span own idx h, List.mem_of_getElem? (i := 1158) (by decide +kernel), List.mem_of_getElem? (i := 1159) (by decide +kernel)⟩
theorem mkX12_isWord (own : String) (idx : Nat) (h : Cond.methodLink own idx yX12_isWord ∈ lw_tbl ∨ ∃ host, Cond.methodLinkNest own idx yX12_isWord host ∈ lw_tbl) : MLk own idx mX12_isWord 1 := ⟨h, List.mem_of_getElem? (i := 93) (by decide +kernel), List.mem_of_getElem? (i := 1180) (by decide +kernel), ⟨by decide +kernel, by decide +kernel⟩, by decide +kernel, by decide⟩
theorem mvX12_isWord (own : String) (idx : Nat) (h : Cond.methodLink own idx yX12_isWord ∈ lw_tbl ∨ ∃ host, Cond.methodLinkNest own idx yX12_isWord host ∈ lw_tbl) : MV own idx mX12_isWord 1 := ⟨mkX12_isWord own idx h, List.mem_of_getElem? (i := 1179) (by decide +kernel), List.mem_of_getElem? (i := 50) (by decide +kernel)⟩
theorem mkX12_said (own : String) (idx : Nat) (h : Cond.methodLink own idx yX12_said ∈ lw_tbl ∨ ∃ host, Cond.methodLinkNest own idx yX12_said host ∈ lw_tbl) : MLk own idx mX12_said 2 := ⟨h, List.mem_of_getElem? (i := 93) (by decide +kernel), List.mem_of_getElem? (i := 1192) (by decide +kernel), ⟨by decide +kernel, by decide +kernel⟩, by decide +kernel, by decide⟩
theorem mvX12_said (own : String) (idx : Nat) (h : Cond.methodLink own idx yX12_said ∈ lw_tbl ∨ ∃ host, Cond.methodLinkNest own idx yX12_said host ∈ lw_tbl) : MV own idx mX12_said 2 := ⟨mkX12_said own idx h, List.mem_of_getElem? (i := 1191) (by decide +kernel), List.mem_of_getElem? (i := 52) (by decide +kernel)⟩
theorem mkX12_sortOf (own : String) (idx : Nat) (h : Cond.methodLink own idx yX12_sortOf ∈ lw_tbl ∨ ∃ host, Cond.methodLinkNest own idx yX12_sortOf host ∈ lw_tbl) : MLk own idx mX12_sortOf 1 := ⟨h, List.mem_of_getElem? (i := 93) (by decide +kernel), List.mem_of_getElem? (i := 1213) (by decide +kernel), ⟨by decide +kernel, by decide +kernel⟩, by decide +kernel, by decide⟩
theorem mvX12_sortOf (own : String) (idx : Nat) (h : Cond.methodLink own idx yX12_sortOf ∈ lw_tbl ∨ ∃ host, Cond.methodLinkNest own idx yX12_sortOf host ∈ lw_tbl) : MV own idx mX12_sortOf 1 := ⟨mkX12_sortOf own idx h, List.mem_of_getElem? (i := 1212) (by decide +kernel), List.mem_of_getElem? (i := 55) (by decide +kernel)⟩
theorem mkX12_isSpot (own : String) (idx : Nat) (h : Cond.methodLink own idx yX12_isSpot ∈ lw_tbl ∨ ∃ host, Cond.methodLinkNest own idx yX12_isSpot host ∈ lw_tbl) : MLk own idx mX12_isSpot 1 := ⟨h, List.mem_of_getElem? (i := 93) (by decide +kernel), List.mem_of_getElem? (i := 1236) (by decide +kernel), ⟨by decide +kernel, by decide +kernel⟩, by decide +kernel, by decide⟩
theorem msX12_isSpot (own : String) (idx : Nat) (h : Cond.methodLink own idx yX12_isSpot ∈ lw_tbl ∨ ∃ host, Cond.methodLinkNest own idx yX12_isSpot host ∈ lw_tbl) : MS own idx mX12_isSpot 1 := ⟨mkX12_isSpot own idx h, List.mem_of_getElem? (i := 1235) (by decide +kernel)⟩
theorem mkX12_canSay (own : String) (idx : Nat) (h : Cond.methodLink own idx yX12_canSay ∈ lw_tbl ∨ ∃ host, Cond.methodLinkNest own idx yX12_canSay host ∈ lw_tbl) : MLk own idx mX12_canSay 3 := ⟨h, List.mem_of_getElem? (i := 93) (by decide +kernel), List.mem_of_getElem? (i := 1168) (by decide +kernel), ⟨by decide +kernel, by decide +kernel⟩, by decide +kernel, by decide⟩
theorem mvX12_canSay (own : String) (idx : Nat) (h : Cond.methodLink own idx yX12_canSay ∈ lw_tbl ∨ ∃ host, Cond.methodLinkNest own idx yX12_canSay host ∈ lw_tbl) : MV own idx mX12_canSay 3 := ⟨mkX12_canSay own idx h, List.mem_of_getElem? (i := 1167) (by decide +kernel), List.mem_of_getElem? (i := 48) (by decide +kernel)⟩
theorem mkX12_says (own : String) (idx : Nat) (h : Cond.methodLink own idx yX12_says ∈ lw_tbl ∨ ∃ host, Cond.methodLinkNest own idx yX12_says host ∈ lw_tbl) : MLk own idx mX12_says 3 := ⟨h, List.mem_of_getElem? (i := 93) (by decide +kernel), List.mem_of_getElem? (i := 1172) (by decide +kernel), ⟨by decide +kernel, by decide +kernel⟩, by decide +kernel, by decide⟩
theorem mvX12_says (own : String) (idx : Nat) (h : Cond.methodLink own idx yX12_says ∈ lw_tbl ∨ ∃ host, Cond.methodLinkNest own idx yX12_says host ∈ lw_tbl) : MV own idx mX12_says 3 := ⟨mkX12_says own idx h, List.mem_of_getElem? (i := 1171) (by decide +kernel), List.mem_of_getElem? (i := 49) (by decide +kernel)⟩
theorem mkX12_word (own : String) (idx : Nat) (h : Cond.methodLink own idx yX12_word ∈ lw_tbl ∨ ∃ host, Cond.methodLinkNest own idx yX12_word host ∈ lw_tbl) : MLk own idx mX12_word 3 := ⟨h, List.mem_of_getElem? (i := 93) (by decide +kernel), List.mem_of_getElem? (i := 1164) (by decide +kernel), ⟨by decide +kernel, by decide +kernel⟩, by decide +kernel, by decide⟩
theorem mvX12_word (own : String) (idx : Nat) (h : Cond.methodLink own idx yX12_word ∈ lw_tbl ∨ ∃ host, Cond.methodLinkNest own idx yX12_word host ∈ lw_tbl) : MV own idx mX12_word 3 := ⟨mkX12_word own idx h, List.mem_of_getElem? (i := 1162) (by decide +kernel), List.mem_of_getElem? (i := 1163) (by decide +kernel)⟩
theorem mkX12_cuts (own : String) (idx : Nat) (h : Cond.methodLink own idx yX12_cuts ∈ lw_tbl ∨ ∃ host, Cond.methodLinkNest own idx yX12_cuts host ∈ lw_tbl) : MLk own idx mX12_cuts 1 := ⟨h, List.mem_of_getElem? (i := 93) (by decide +kernel), List.mem_of_getElem? (i := 1176) (by decide +kernel), ⟨by decide +kernel, by decide +kernel⟩, by decide +kernel, by decide⟩
theorem mvX12_cuts (own : String) (idx : Nat) (h : Cond.methodLink own idx yX12_cuts ∈ lw_tbl ∨ ∃ host, Cond.methodLinkNest own idx yX12_cuts host ∈ lw_tbl) : MV own idx mX12_cuts 1 := ⟨mkX12_cuts own idx h, List.mem_of_getElem? (i := 1174) (by decide +kernel), List.mem_of_getElem? (i := 1175) (by decide +kernel)⟩
theorem mkX12_swaps (own : String) (idx : Nat) (h : Cond.methodLink own idx yX12_swaps ∈ lw_tbl ∨ ∃ host, Cond.methodLinkNest own idx yX12_swaps host ∈ lw_tbl) : MLk own idx mX12_swaps 2 := ⟨h, List.mem_of_getElem? (i := 93) (by decide +kernel), List.mem_of_getElem? (i := 1188) (by decide +kernel), ⟨by decide +kernel, by decide +kernel⟩, by decide +kernel, by decide⟩
theorem mvX12_swaps (own : String) (idx : Nat) (h : Cond.methodLink own idx yX12_swaps ∈ lw_tbl ∨ ∃ host, Cond.methodLinkNest own idx yX12_swaps host ∈ lw_tbl) : MV own idx mX12_swaps 2 := ⟨mkX12_swaps own idx h, List.mem_of_getElem? (i := 1187) (by decide +kernel), List.mem_of_getElem? (i := 51) (by decide +kernel)⟩
theorem mkX12_shifts (own : String) (idx : Nat) (h : Cond.methodLink own idx yX12_shifts ∈ lw_tbl ∨ ∃ host, Cond.methodLinkNest own idx yX12_shifts host ∈ lw_tbl) : MLk own idx mX12_shifts 2 := ⟨h, List.mem_of_getElem? (i := 93) (by decide +kernel), List.mem_of_getElem? (i := 1184) (by decide +kernel), ⟨by decide +kernel, by decide +kernel⟩, by decide +kernel, by decide⟩
theorem mvX12_shifts (own : String) (idx : Nat) (h : Cond.methodLink own idx yX12_shifts ∈ lw_tbl ∨ ∃ host, Cond.methodLinkNest own idx yX12_shifts host ∈ lw_tbl) : MV own idx mX12_shifts 2 := ⟨mkX12_shifts own idx h, List.mem_of_getElem? (i := 1182) (by decide +kernel), List.mem_of_getElem? (i := 1183) (by decide +kernel)⟩
theorem mkX12_clearsAll (own : String) (idx : Nat) (h : Cond.methodLink own idx yX12_clearsAll ∈ lw_tbl ∨ ∃ host, Cond.methodLinkNest own idx yX12_clearsAll host ∈ lw_tbl) : MLk own idx mX12_clearsAll 0 := ⟨h, List.mem_of_getElem? (i := 93) (by decide +kernel), List.mem_of_getElem? (i := 1200) (by decide +kernel), ⟨by decide +kernel, by decide +kernel⟩, by decide +kernel, by decide⟩
theorem mvX12_clearsAll (own : String) (idx : Nat) (h : Cond.methodLink own idx yX12_clearsAll ∈ lw_tbl ∨ ∃ host, Cond.methodLinkNest own idx yX12_clearsAll host ∈ lw_tbl) : MV own idx mX12_clearsAll 0 := ⟨mkX12_clearsAll own idx h, List.mem_of_getElem? (i := 1199) (by decide +kernel), List.mem_of_getElem? (i := 53) (by decide +kernel)⟩
theorem mkX12_clears (own : String) (idx : Nat) (h : Cond.methodLink own idx yX12_clears ∈ lw_tbl ∨ ∃ host, Cond.methodLinkNest own idx yX12_clears host ∈ lw_tbl) : MLk own idx mX12_clears 0 := ⟨h, List.mem_of_getElem? (i := 93) (by decide +kernel), List.mem_of_getElem? (i := 1196) (by decide +kernel), ⟨by decide +kernel, by decide +kernel⟩, by decide +kernel, by decide⟩
theorem mvX12_clears (own : String) (idx : Nat) (h : Cond.methodLink own idx yX12_clears ∈ lw_tbl ∨ ∃ host, Cond.methodLinkNest own idx yX12_clears host ∈ lw_tbl) : MV own idx mX12_clears 0 := ⟨mkX12_clears own idx h, List.mem_of_getElem? (i := 1194) (by decide +kernel), List.mem_of_getElem? (i := 1195) (by decide +kernel)⟩
theorem mkX12_atSpot (own : String) (idx : Nat) (h : Cond.methodLink own idx yX12_atSpot ∈ lw_tbl ∨ ∃ host, Cond.methodLinkNest own idx yX12_atSpot host ∈ lw_tbl) : MLk own idx mX12_atSpot 2 := ⟨h, List.mem_of_getElem? (i := 93) (by decide +kernel), List.mem_of_getElem? (i := 1229) (by decide +kernel), ⟨by decide +kernel, by decide +kernel⟩, by decide +kernel, by decide⟩
theorem mvX12_atSpot (own : String) (idx : Nat) (h : Cond.methodLink own idx yX12_atSpot ∈ lw_tbl ∨ ∃ host, Cond.methodLinkNest own idx yX12_atSpot host ∈ lw_tbl) : MV own idx mX12_atSpot 2 := ⟨mkX12_atSpot own idx h, List.mem_of_getElem? (i := 1228) (by decide +kernel), List.mem_of_getElem? (i := 59) (by decide +kernel)⟩
theorem mkX12_meant (own : String) (idx : Nat) (h : Cond.methodLink own idx yX12_meant ∈ lw_tbl ∨ ∃ host, Cond.methodLinkNest own idx yX12_meant host ∈ lw_tbl) : MLk own idx mX12_meant 2 := ⟨h, List.mem_of_getElem? (i := 93) (by decide +kernel), List.mem_of_getElem? (i := 1225) (by decide +kernel), ⟨by decide +kernel, by decide +kernel⟩, by decide +kernel, by decide⟩
theorem mvX12_meant (own : String) (idx : Nat) (h : Cond.methodLink own idx yX12_meant ∈ lw_tbl ∨ ∃ host, Cond.methodLinkNest own idx yX12_meant host ∈ lw_tbl) : MV own idx mX12_meant 2 := ⟨mkX12_meant own idx h, List.mem_of_getElem? (i := 1224) (by decide +kernel), List.mem_of_getElem? (i := 58) (by decide +kernel)⟩
theorem mkX12_isVain (own : String) (idx : Nat) (h : Cond.methodLink own idx yX12_isVain ∈ lw_tbl ∨ ∃ host, Cond.methodLinkNest own idx yX12_isVain host ∈ lw_tbl) : MLk own idx mX12_isVain 1 := ⟨h, List.mem_of_getElem? (i := 93) (by decide +kernel), List.mem_of_getElem? (i := 1221) (by decide +kernel), ⟨by decide +kernel, by decide +kernel⟩, by decide +kernel, by decide⟩
theorem mvX12_isVain (own : String) (idx : Nat) (h : Cond.methodLink own idx yX12_isVain ∈ lw_tbl ∨ ∃ host, Cond.methodLinkNest own idx yX12_isVain host ∈ lw_tbl) : MV own idx mX12_isVain 1 := ⟨mkX12_isVain own idx h, List.mem_of_getElem? (i := 1220) (by decide +kernel), List.mem_of_getElem? (i := 57) (by decide +kernel)⟩
theorem mkX12_clauseOf (own : String) (idx : Nat) (h : Cond.methodLink own idx yX12_clauseOf ∈ lw_tbl ∨ ∃ host, Cond.methodLinkNest own idx yX12_clauseOf host ∈ lw_tbl) : MLk own idx mX12_clauseOf 1 := ⟨h, List.mem_of_getElem? (i := 93) (by decide +kernel), List.mem_of_getElem? (i := 1217) (by decide +kernel), ⟨by decide +kernel, by decide +kernel⟩, by decide +kernel, by decide⟩
theorem mvX12_clauseOf (own : String) (idx : Nat) (h : Cond.methodLink own idx yX12_clauseOf ∈ lw_tbl ∨ ∃ host, Cond.methodLinkNest own idx yX12_clauseOf host ∈ lw_tbl) : MV own idx mX12_clauseOf 1 := ⟨mkX12_clauseOf own idx h, List.mem_of_getElem? (i := 1216) (by decide +kernel), List.mem_of_getElem? (i := 56) (by decide +kernel)⟩
theorem mkX12_wordIs (own : String) (idx : Nat) (h : Cond.methodLink own idx yX12_wordIs ∈ lw_tbl ∨ ∃ host, Cond.methodLinkNest own idx yX12_wordIs host ∈ lw_tbl) : MLk own idx mX12_wordIs 2 := ⟨h, List.mem_of_getElem? (i := 93) (by decide +kernel), List.mem_of_getElem? (i := 1209) (by decide +kernel), ⟨by decide +kernel, by decide +kernel⟩, by decide +kernel, by decide⟩
theorem mvX12_wordIs (own : String) (idx : Nat) (h : Cond.methodLink own idx yX12_wordIs ∈ lw_tbl ∨ ∃ host, Cond.methodLinkNest own idx yX12_wordIs host ∈ lw_tbl) : MV own idx mX12_wordIs 2 := ⟨mkX12_wordIs own idx h, List.mem_of_getElem? (i := 1208) (by decide +kernel), List.mem_of_getElem? (i := 54) (by decide +kernel)⟩
theorem mkX12_wordOf (own : String) (idx : Nat) (h : Cond.methodLink own idx yX12_wordOf ∈ lw_tbl ∨ ∃ host, Cond.methodLinkNest own idx yX12_wordOf host ∈ lw_tbl) : MLk own idx mX12_wordOf 2 := ⟨h, List.mem_of_getElem? (i := 93) (by decide +kernel), List.mem_of_getElem? (i := 1204) (by decide +kernel), ⟨by decide +kernel, by decide +kernel⟩, by decide +kernel, by decide⟩
theorem mvX12_wordOf (own : String) (idx : Nat) (h : Cond.methodLink own idx yX12_wordOf ∈ lw_tbl ∨ ∃ host, Cond.methodLinkNest own idx yX12_wordOf host ∈ lw_tbl) : MV own idx mX12_wordOf 2 := ⟨mkX12_wordOf own idx h, List.mem_of_getElem? (i := 1202) (by decide +kernel), List.mem_of_getElem? (i := 1203) (by decide +kernel)⟩
theorem mkX12_at (own : String) (idx : Nat) (h : Cond.methodLink own idx yX12_at ∈ lw_tbl ∨ ∃ host, Cond.methodLinkNest own idx yX12_at host ∈ lw_tbl) : MLk own idx mX12_at 2 := ⟨h, List.mem_of_getElem? (i := 93) (by decide +kernel), List.mem_of_getElem? (i := 1233) (by decide +kernel), ⟨by decide +kernel, by decide +kernel⟩, by decide +kernel, by decide⟩
theorem mvX12_at (own : String) (idx : Nat) (h : Cond.methodLink own idx yX12_at ∈ lw_tbl ∨ ∃ host, Cond.methodLinkNest own idx yX12_at host ∈ lw_tbl) : MV own idx mX12_at 2 := ⟨mkX12_at own idx h, List.mem_of_getElem? (i := 1231) (by decide +kernel), List.mem_of_getElem? (i := 1232) (by decide +kernel)⟩
theorem mkX12_rank (own : String) (idx : Nat) (h : Cond.methodLink own idx yX12_rank ∈ lw_tbl ∨ ∃ host, Cond.methodLinkNest own idx yX12_rank host ∈ lw_tbl) : MLk own idx mX12_rank 1 := ⟨h, List.mem_of_getElem? (i := 93) (by decide +kernel), List.mem_of_getElem? (i := 1256) (by decide +kernel), ⟨by decide +kernel, by decide +kernel⟩, by decide +kernel, by decide⟩
theorem mvX12_rank (own : String) (idx : Nat) (h : Cond.methodLink own idx yX12_rank ∈ lw_tbl ∨ ∃ host, Cond.methodLinkNest own idx yX12_rank host ∈ lw_tbl) : MV own idx mX12_rank 1 := ⟨mkX12_rank own idx h, List.mem_of_getElem? (i := 1255) (by decide +kernel), List.mem_of_getElem? (i := 63) (by decide +kernel)⟩
theorem mkX12_swapsOfAll (own : String) (idx : Nat) (h : Cond.methodLink own idx yX12_swapsOfAll ∈ lw_tbl ∨ ∃ host, Cond.methodLinkNest own idx yX12_swapsOfAll host ∈ lw_tbl) : MLk own idx mX12_swapsOfAll 0 := ⟨h, List.mem_of_getElem? (i := 93) (by decide +kernel), List.mem_of_getElem? (i := 1252) (by decide +kernel), ⟨by decide +kernel, by decide +kernel⟩, by decide +kernel, by decide⟩
theorem mvX12_swapsOfAll (own : String) (idx : Nat) (h : Cond.methodLink own idx yX12_swapsOfAll ∈ lw_tbl ∨ ∃ host, Cond.methodLinkNest own idx yX12_swapsOfAll host ∈ lw_tbl) : MV own idx mX12_swapsOfAll 0 := ⟨mkX12_swapsOfAll own idx h, List.mem_of_getElem? (i := 1251) (by decide +kernel), List.mem_of_getElem? (i := 62) (by decide +kernel)⟩
theorem mkX12_ordered (own : String) (idx : Nat) (h : Cond.methodLink own idx yX12_ordered ∈ lw_tbl ∨ ∃ host, Cond.methodLinkNest own idx yX12_ordered host ∈ lw_tbl) : MLk own idx mX12_ordered 1 := ⟨h, List.mem_of_getElem? (i := 93) (by decide +kernel), List.mem_of_getElem? (i := 1264) (by decide +kernel), ⟨by decide +kernel, by decide +kernel⟩, by decide +kernel, by decide⟩
theorem mvX12_ordered (own : String) (idx : Nat) (h : Cond.methodLink own idx yX12_ordered ∈ lw_tbl ∨ ∃ host, Cond.methodLinkNest own idx yX12_ordered host ∈ lw_tbl) : MV own idx mX12_ordered 1 := ⟨mkX12_ordered own idx h, List.mem_of_getElem? (i := 1263) (by decide +kernel), List.mem_of_getElem? (i := 65) (by decide +kernel)⟩
theorem mkX12_clauses (own : String) (idx : Nat) (h : Cond.methodLink own idx yX12_clauses ∈ lw_tbl ∨ ∃ host, Cond.methodLinkNest own idx yX12_clauses host ∈ lw_tbl) : MLk own idx mX12_clauses 0 := ⟨h, List.mem_of_getElem? (i := 93) (by decide +kernel), List.mem_of_getElem? (i := 1244) (by decide +kernel), ⟨by decide +kernel, by decide +kernel⟩, by decide +kernel, by decide⟩
theorem mvX12_clauses (own : String) (idx : Nat) (h : Cond.methodLink own idx yX12_clauses ∈ lw_tbl ∨ ∃ host, Cond.methodLinkNest own idx yX12_clauses host ∈ lw_tbl) : MV own idx mX12_clauses 0 := ⟨mkX12_clauses own idx h, List.mem_of_getElem? (i := 1243) (by decide +kernel), List.mem_of_getElem? (i := 60) (by decide +kernel)⟩
theorem mkX12_moved (own : String) (idx : Nat) (h : Cond.methodLink own idx yX12_moved ∈ lw_tbl ∨ ∃ host, Cond.methodLinkNest own idx yX12_moved host ∈ lw_tbl) : MLk own idx mX12_moved 0 := ⟨h, List.mem_of_getElem? (i := 93) (by decide +kernel), List.mem_of_getElem? (i := 1260) (by decide +kernel), ⟨by decide +kernel, by decide +kernel⟩, by decide +kernel, by decide⟩
theorem mvX12_moved (own : String) (idx : Nat) (h : Cond.methodLink own idx yX12_moved ∈ lw_tbl ∨ ∃ host, Cond.methodLinkNest own idx yX12_moved host ∈ lw_tbl) : MV own idx mX12_moved 0 := ⟨mkX12_moved own idx h, List.mem_of_getElem? (i := 1259) (by decide +kernel), List.mem_of_getElem? (i := 64) (by decide +kernel)⟩
theorem mkX12_vain (own : String) (idx : Nat) (h : Cond.methodLink own idx yX12_vain ∈ lw_tbl ∨ ∃ host, Cond.methodLinkNest own idx yX12_vain host ∈ lw_tbl) : MLk own idx mX12_vain 0 := ⟨h, List.mem_of_getElem? (i := 93) (by decide +kernel), List.mem_of_getElem? (i := 1248) (by decide +kernel), ⟨by decide +kernel, by decide +kernel⟩, by decide +kernel, by decide⟩
theorem mvX12_vain (own : String) (idx : Nat) (h : Cond.methodLink own idx yX12_vain ∈ lw_tbl ∨ ∃ host, Cond.methodLinkNest own idx yX12_vain host ∈ lw_tbl) : MV own idx mX12_vain 0 := ⟨mkX12_vain own idx h, List.mem_of_getElem? (i := 1247) (by decide +kernel), List.mem_of_getElem? (i := 61) (by decide +kernel)⟩
theorem mkX12_spots (own : String) (idx : Nat) (h : Cond.methodLink own idx yX12_spots ∈ lw_tbl ∨ ∃ host, Cond.methodLinkNest own idx yX12_spots host ∈ lw_tbl) : MLk own idx mX12_spots 0 := ⟨h, List.mem_of_getElem? (i := 93) (by decide +kernel), List.mem_of_getElem? (i := 1276) (by decide +kernel), ⟨by decide +kernel, by decide +kernel⟩, by decide +kernel, by decide⟩
theorem mvX12_spots (own : String) (idx : Nat) (h : Cond.methodLink own idx yX12_spots ∈ lw_tbl ∨ ∃ host, Cond.methodLinkNest own idx yX12_spots host ∈ lw_tbl) : MV own idx mX12_spots 0 := ⟨mkX12_spots own idx h, List.mem_of_getElem? (i := 1275) (by decide +kernel), List.mem_of_getElem? (i := 68) (by decide +kernel)⟩
theorem mkX12_way (own : String) (idx : Nat) (h : Cond.methodLink own idx yX12_way ∈ lw_tbl ∨ ∃ host, Cond.methodLinkNest own idx yX12_way host ∈ lw_tbl) : MLk own idx mX12_way 0 := ⟨h, List.mem_of_getElem? (i := 93) (by decide +kernel), List.mem_of_getElem? (i := 1272) (by decide +kernel), ⟨by decide +kernel, by decide +kernel⟩, by decide +kernel, by decide⟩
theorem mvX12_way (own : String) (idx : Nat) (h : Cond.methodLink own idx yX12_way ∈ lw_tbl ∨ ∃ host, Cond.methodLinkNest own idx yX12_way host ∈ lw_tbl) : MV own idx mX12_way 0 := ⟨mkX12_way own idx h, List.mem_of_getElem? (i := 1271) (by decide +kernel), List.mem_of_getElem? (i := 67) (by decide +kernel)⟩
theorem mkX12_wayNow (own : String) (idx : Nat) (h : Cond.methodLink own idx yX12_wayNow ∈ lw_tbl ∨ ∃ host, Cond.methodLinkNest own idx yX12_wayNow host ∈ lw_tbl) : MLk own idx mX12_wayNow 0 := ⟨h, List.mem_of_getElem? (i := 93) (by decide +kernel), List.mem_of_getElem? (i := 1268) (by decide +kernel), ⟨by decide +kernel, by decide +kernel⟩, by decide +kernel, by decide⟩
theorem mvX12_wayNow (own : String) (idx : Nat) (h : Cond.methodLink own idx yX12_wayNow ∈ lw_tbl ∨ ∃ host, Cond.methodLinkNest own idx yX12_wayNow host ∈ lw_tbl) : MV own idx mX12_wayNow 0 := ⟨mkX12_wayNow own idx h, List.mem_of_getElem? (i := 1267) (by decide +kernel), List.mem_of_getElem? (i := 66) (by decide +kernel)⟩
theorem mkX12_all (own : String) (idx : Nat) (h : Cond.methodLink own idx yX12_all ∈ lw_tbl ∨ ∃ host, Cond.methodLinkNest own idx yX12_all host ∈ lw_tbl) : MLk own idx mX12_all 1 := ⟨h, List.mem_of_getElem? (i := 93) (by decide +kernel), List.mem_of_getElem? (i := 1240) (by decide +kernel), ⟨by decide +kernel, by decide +kernel⟩, by decide +kernel, by decide⟩
theorem mvX12_all (own : String) (idx : Nat) (h : Cond.methodLink own idx yX12_all ∈ lw_tbl ∨ ∃ host, Cond.methodLinkNest own idx yX12_all host ∈ lw_tbl) : MV own idx mX12_all 1 := ⟨mkX12_all own idx h, List.mem_of_getElem? (i := 1238) (by decide +kernel), List.mem_of_getElem? (i := 1239) (by decide +kernel)⟩
theorem mkX12_spotAt (own : String) (idx : Nat) (h : Cond.methodLink own idx yX12_spotAt ∈ lw_tbl ∨ ∃ host, Cond.methodLinkNest own idx yX12_spotAt host ∈ lw_tbl) : MLk own idx mX12_spotAt 1 := ⟨h, List.mem_of_getElem? (i := 93) (by decide +kernel), List.mem_of_getElem? (i := 1284) (by decide +kernel), ⟨by decide +kernel, by decide +kernel⟩, by decide +kernel, by decide⟩
theorem mvX12_spotAt (own : String) (idx : Nat) (h : Cond.methodLink own idx yX12_spotAt ∈ lw_tbl ∨ ∃ host, Cond.methodLinkNest own idx yX12_spotAt host ∈ lw_tbl) : MV own idx mX12_spotAt 1 := ⟨mkX12_spotAt own idx h, List.mem_of_getElem? (i := 1283) (by decide +kernel), List.mem_of_getElem? (i := 69) (by decide +kernel)⟩
theorem mkX12_lays (own : String) (idx : Nat) (h : Cond.methodLink own idx yX12_lays ∈ lw_tbl ∨ ∃ host, Cond.methodLinkNest own idx yX12_lays host ∈ lw_tbl) : MLk own idx mX12_lays 2 := ⟨h, List.mem_of_getElem? (i := 93) (by decide +kernel), List.mem_of_getElem? (i := 1280) (by decide +kernel), ⟨by decide +kernel, by decide +kernel⟩, by decide +kernel, by decide⟩
theorem mvX12_lays (own : String) (idx : Nat) (h : Cond.methodLink own idx yX12_lays ∈ lw_tbl ∨ ∃ host, Cond.methodLinkNest own idx yX12_lays host ∈ lw_tbl) : MV own idx mX12_lays 2 := ⟨mkX12_lays own idx h, List.mem_of_getElem? (i := 1278) (by decide +kernel), List.mem_of_getElem? (i := 1279) (by decide +kernel)⟩
theorem mkX12_lay (own : String) (idx : Nat) (h : Cond.methodLink own idx yX12_lay ∈ lw_tbl ∨ ∃ host, Cond.methodLinkNest own idx yX12_lay host ∈ lw_tbl) : MLk own idx mX12_lay 1 := ⟨h, List.mem_of_getElem? (i := 93) (by decide +kernel), List.mem_of_getElem? (i := 1288) (by decide +kernel), ⟨by decide +kernel, by decide +kernel⟩, by decide +kernel, by decide⟩
theorem mvX12_lay (own : String) (idx : Nat) (h : Cond.methodLink own idx yX12_lay ∈ lw_tbl ∨ ∃ host, Cond.methodLinkNest own idx yX12_lay host ∈ lw_tbl) : MV own idx mX12_lay 1 := ⟨mkX12_lay own idx h, List.mem_of_getElem? (i := 1286) (by decide +kernel), List.mem_of_getElem? (i := 1287) (by decide +kernel)⟩
theorem mkX12_tries (own : String) (idx : Nat) (h : Cond.methodLink own idx yX12_tries ∈ lw_tbl ∨ ∃ host, Cond.methodLinkNest own idx yX12_tries host ∈ lw_tbl) : MLk own idx mX12_tries 1 := ⟨h, List.mem_of_getElem? (i := 93) (by decide +kernel), List.mem_of_getElem? (i := 1300) (by decide +kernel), ⟨by decide +kernel, by decide +kernel⟩, by decide +kernel, by decide⟩
theorem mvX12_tries (own : String) (idx : Nat) (h : Cond.methodLink own idx yX12_tries ∈ lw_tbl ∨ ∃ host, Cond.methodLinkNest own idx yX12_tries host ∈ lw_tbl) : MV own idx mX12_tries 1 := ⟨mkX12_tries own idx h, List.mem_of_getElem? (i := 1299) (by decide +kernel), List.mem_of_getElem? (i := 71) (by decide +kernel)⟩
theorem mkX12_bestWay (own : String) (idx : Nat) (h : Cond.methodLink own idx yX12_bestWay ∈ lw_tbl ∨ ∃ host, Cond.methodLinkNest own idx yX12_bestWay host ∈ lw_tbl) : MLk own idx mX12_bestWay 0 := ⟨h, List.mem_of_getElem? (i := 93) (by decide +kernel), List.mem_of_getElem? (i := 1296) (by decide +kernel), ⟨by decide +kernel, by decide +kernel⟩, by decide +kernel, by decide⟩
theorem mvX12_bestWay (own : String) (idx : Nat) (h : Cond.methodLink own idx yX12_bestWay ∈ lw_tbl ∨ ∃ host, Cond.methodLinkNest own idx yX12_bestWay host ∈ lw_tbl) : MV own idx mX12_bestWay 0 := ⟨mkX12_bestWay own idx h, List.mem_of_getElem? (i := 1295) (by decide +kernel), List.mem_of_getElem? (i := 70) (by decide +kernel)⟩
theorem mkX12_best (own : String) (idx : Nat) (h : Cond.methodLink own idx yX12_best ∈ lw_tbl ∨ ∃ host, Cond.methodLinkNest own idx yX12_best host ∈ lw_tbl) : MLk own idx mX12_best 1 := ⟨h, List.mem_of_getElem? (i := 93) (by decide +kernel), List.mem_of_getElem? (i := 1292) (by decide +kernel), ⟨by decide +kernel, by decide +kernel⟩, by decide +kernel, by decide⟩
theorem mvX12_best (own : String) (idx : Nat) (h : Cond.methodLink own idx yX12_best ∈ lw_tbl ∨ ∃ host, Cond.methodLinkNest own idx yX12_best host ∈ lw_tbl) : MV own idx mX12_best 1 := ⟨mkX12_best own idx h, List.mem_of_getElem? (i := 1290) (by decide +kernel), List.mem_of_getElem? (i := 1291) (by decide +kernel)⟩
theorem mkX12_settles (own : String) (idx : Nat) (h : Cond.methodLink own idx yX12_settles ∈ lw_tbl ∨ ∃ host, Cond.methodLinkNest own idx yX12_settles host ∈ lw_tbl) : MLk own idx mX12_settles 0 := ⟨h, List.mem_of_getElem? (i := 93) (by decide +kernel), List.mem_of_getElem? (i := 1304) (by decide +kernel), ⟨by decide +kernel, by decide +kernel⟩, by decide +kernel, by decide⟩
theorem mvX12_settles (own : String) (idx : Nat) (h : Cond.methodLink own idx yX12_settles ∈ lw_tbl ∨ ∃ host, Cond.methodLinkNest own idx yX12_settles host ∈ lw_tbl) : MV own idx mX12_settles 0 := ⟨mkX12_settles own idx h, List.mem_of_getElem? (i := 1302) (by decide +kernel), List.mem_of_getElem? (i := 1303) (by decide +kernel)⟩
theorem mkX12_type (own : String) (idx : Nat) (h : Cond.methodLink own idx yX12_type ∈ lw_tbl ∨ ∃ host, Cond.methodLinkNest own idx yX12_type host ∈ lw_tbl) : MLk own idx mX12_type 1 := ⟨h, List.mem_of_getElem? (i := 93) (by decide +kernel), List.mem_of_getElem? (i := 1308) (by decide +kernel), ⟨by decide +kernel, by decide +kernel⟩, by decide +kernel, by decide⟩
theorem mvX12_type (own : String) (idx : Nat) (h : Cond.methodLink own idx yX12_type ∈ lw_tbl ∨ ∃ host, Cond.methodLinkNest own idx yX12_type host ∈ lw_tbl) : MV own idx mX12_type 1 := ⟨mkX12_type own idx h, List.mem_of_getElem? (i := 1306) (by decide +kernel), List.mem_of_getElem? (i := 1307) (by decide +kernel)⟩
theorem mkX12_clear (own : String) (idx : Nat) (h : Cond.methodLink own idx yX12_clear ∈ lw_tbl ∨ ∃ host, Cond.methodLinkNest own idx yX12_clear host ∈ lw_tbl) : MLk own idx mX12_clear 0 := ⟨h, List.mem_of_getElem? (i := 93) (by decide +kernel), List.mem_of_getElem? (i := 1313) (by decide +kernel), ⟨by decide +kernel, by decide +kernel⟩, by decide +kernel, by decide⟩
theorem mvX12_clear (own : String) (idx : Nat) (h : Cond.methodLink own idx yX12_clear ∈ lw_tbl ∨ ∃ host, Cond.methodLinkNest own idx yX12_clear host ∈ lw_tbl) : MV own idx mX12_clear 0 := ⟨mkX12_clear own idx h, List.mem_of_getElem? (i := 1311) (by decide +kernel), List.mem_of_getElem? (i := 1312) (by decide +kernel)⟩
theorem mkX12_byteHere (own : String) (idx : Nat) (h : Cond.methodLink own idx yX12_byteHere ∈ lw_tbl ∨ ∃ host, Cond.methodLinkNest own idx yX12_byteHere host ∈ lw_tbl) : MLk own idx mX12_byteHere 0 := ⟨h, List.mem_of_getElem? (i := 93) (by decide +kernel), List.mem_of_getElem? (i := 1329) (by decide +kernel), ⟨by decide +kernel, by decide +kernel⟩, by decide +kernel, by decide⟩
theorem mvX12_byteHere (own : String) (idx : Nat) (h : Cond.methodLink own idx yX12_byteHere ∈ lw_tbl ∨ ∃ host, Cond.methodLinkNest own idx yX12_byteHere host ∈ lw_tbl) : MV own idx mX12_byteHere 0 := ⟨mkX12_byteHere own idx h, List.mem_of_getElem? (i := 1328) (by decide +kernel), List.mem_of_getElem? (i := 74) (by decide +kernel)⟩
theorem mkX12_blanks (own : String) (idx : Nat) (h : Cond.methodLink own idx yX12_blanks ∈ lw_tbl ∨ ∃ host, Cond.methodLinkNest own idx yX12_blanks host ∈ lw_tbl) : MLk own idx mX12_blanks 0 := ⟨h, List.mem_of_getElem? (i := 93) (by decide +kernel), List.mem_of_getElem? (i := 1325) (by decide +kernel), ⟨by decide +kernel, by decide +kernel⟩, by decide +kernel, by decide⟩
theorem mvX12_blanks (own : String) (idx : Nat) (h : Cond.methodLink own idx yX12_blanks ∈ lw_tbl ∨ ∃ host, Cond.methodLinkNest own idx yX12_blanks host ∈ lw_tbl) : MV own idx mX12_blanks 0 := ⟨mkX12_blanks own idx h, List.mem_of_getElem? (i := 1324) (by decide +kernel), List.mem_of_getElem? (i := 73) (by decide +kernel)⟩
theorem mkX12_least (own : String) (idx : Nat) (h : Cond.methodLink own idx yX12_least ∈ lw_tbl ∨ ∃ host, Cond.methodLinkNest own idx yX12_least host ∈ lw_tbl) : MLk own idx mX12_least 1 := ⟨h, List.mem_of_getElem? (i := 93) (by decide +kernel), List.mem_of_getElem? (i := 1336) (by decide +kernel), ⟨by decide +kernel, by decide +kernel⟩, by decide +kernel, by decide⟩
theorem msX12_least (own : String) (idx : Nat) (h : Cond.methodLink own idx yX12_least ∈ lw_tbl ∨ ∃ host, Cond.methodLinkNest own idx yX12_least host ∈ lw_tbl) : MS own idx mX12_least 1 := ⟨mkX12_least own idx h, List.mem_of_getElem? (i := 1335) (by decide +kernel)⟩
theorem mkX12_isFigure (own : String) (idx : Nat) (h : Cond.methodLink own idx yX12_isFigure ∈ lw_tbl ∨ ∃ host, Cond.methodLinkNest own idx yX12_isFigure host ∈ lw_tbl) : MLk own idx mX12_isFigure 0 := ⟨h, List.mem_of_getElem? (i := 93) (by decide +kernel), List.mem_of_getElem? (i := 1340) (by decide +kernel), ⟨by decide +kernel, by decide +kernel⟩, by decide +kernel, by decide⟩
theorem mvX12_isFigure (own : String) (idx : Nat) (h : Cond.methodLink own idx yX12_isFigure ∈ lw_tbl ∨ ∃ host, Cond.methodLinkNest own idx yX12_isFigure host ∈ lw_tbl) : MV own idx mX12_isFigure 0 := ⟨mkX12_isFigure own idx h, List.mem_of_getElem? (i := 1339) (by decide +kernel), List.mem_of_getElem? (i := 76) (by decide +kernel)⟩
theorem mkX12_readsOrder (own : String) (idx : Nat) (h : Cond.methodLink own idx yX12_readsOrder ∈ lw_tbl ∨ ∃ host, Cond.methodLinkNest own idx yX12_readsOrder host ∈ lw_tbl) : MLk own idx mX12_readsOrder 0 := ⟨h, List.mem_of_getElem? (i := 93) (by decide +kernel), List.mem_of_getElem? (i := 1333) (by decide +kernel), ⟨by decide +kernel, by decide +kernel⟩, by decide +kernel, by decide⟩
theorem mvX12_readsOrder (own : String) (idx : Nat) (h : Cond.methodLink own idx yX12_readsOrder ∈ lw_tbl ∨ ∃ host, Cond.methodLinkNest own idx yX12_readsOrder host ∈ lw_tbl) : MV own idx mX12_readsOrder 0 := ⟨mkX12_readsOrder own idx h, List.mem_of_getElem? (i := 1332) (by decide +kernel), List.mem_of_getElem? (i := 75) (by decide +kernel)⟩
theorem mkX12_readsAll (own : String) (idx : Nat) (h : Cond.methodLink own idx yX12_readsAll ∈ lw_tbl ∨ ∃ host, Cond.methodLinkNest own idx yX12_readsAll host ∈ lw_tbl) : MLk own idx mX12_readsAll 0 := ⟨h, List.mem_of_getElem? (i := 93) (by decide +kernel), List.mem_of_getElem? (i := 1321) (by decide +kernel), ⟨by decide +kernel, by decide +kernel⟩, by decide +kernel, by decide⟩
theorem mvX12_readsAll (own : String) (idx : Nat) (h : Cond.methodLink own idx yX12_readsAll ∈ lw_tbl ∨ ∃ host, Cond.methodLinkNest own idx yX12_readsAll host ∈ lw_tbl) : MV own idx mX12_readsAll 0 := ⟨mkX12_readsAll own idx h, List.mem_of_getElem? (i := 1320) (by decide +kernel), List.mem_of_getElem? (i := 72) (by decide +kernel)⟩
theorem mkX12_laysAll (own : String) (idx : Nat) (h : Cond.methodLink own idx yX12_laysAll ∈ lw_tbl ∨ ∃ host, Cond.methodLinkNest own idx yX12_laysAll host ∈ lw_tbl) : MLk own idx mX12_laysAll 1 := ⟨h, List.mem_of_getElem? (i := 93) (by decide +kernel), List.mem_of_getElem? (i := 1350) (by decide +kernel), ⟨by decide +kernel, by decide +kernel⟩, by decide +kernel, by decide⟩
theorem mvX12_laysAll (own : String) (idx : Nat) (h : Cond.methodLink own idx yX12_laysAll ∈ lw_tbl ∨ ∃ host, Cond.methodLinkNest own idx yX12_laysAll host ∈ lw_tbl) : MV own idx mX12_laysAll 1 := ⟨mkX12_laysAll own idx h, List.mem_of_getElem? (i := 1349) (by decide +kernel), List.mem_of_getElem? (i := 78) (by decide +kernel)⟩
theorem mkX12_does (own : String) (idx : Nat) (h : Cond.methodLink own idx yX12_does ∈ lw_tbl ∨ ∃ host, Cond.methodLinkNest own idx yX12_does host ∈ lw_tbl) : MLk own idx mX12_does 1 := ⟨h, List.mem_of_getElem? (i := 93) (by decide +kernel), List.mem_of_getElem? (i := 1346) (by decide +kernel), ⟨by decide +kernel, by decide +kernel⟩, by decide +kernel, by decide⟩
theorem mvX12_does (own : String) (idx : Nat) (h : Cond.methodLink own idx yX12_does ∈ lw_tbl ∨ ∃ host, Cond.methodLinkNest own idx yX12_does host ∈ lw_tbl) : MV own idx mX12_does 1 := ⟨mkX12_does own idx h, List.mem_of_getElem? (i := 1345) (by decide +kernel), List.mem_of_getElem? (i := 77) (by decide +kernel)⟩
theorem mkX12_reads (own : String) (idx : Nat) (h : Cond.methodLink own idx yX12_reads ∈ lw_tbl ∨ ∃ host, Cond.methodLinkNest own idx yX12_reads host ∈ lw_tbl) : MLk own idx mX12_reads 0 := ⟨h, List.mem_of_getElem? (i := 93) (by decide +kernel), List.mem_of_getElem? (i := 1317) (by decide +kernel), ⟨by decide +kernel, by decide +kernel⟩, by decide +kernel, by decide⟩
theorem mvX12_reads (own : String) (idx : Nat) (h : Cond.methodLink own idx yX12_reads ∈ lw_tbl ∨ ∃ host, Cond.methodLinkNest own idx yX12_reads host ∈ lw_tbl) : MV own idx mX12_reads 0 := ⟨mkX12_reads own idx h, List.mem_of_getElem? (i := 1315) (by decide +kernel), List.mem_of_getElem? (i := 1316) (by decide +kernel)⟩
theorem mkX12_back (own : String) (idx : Nat) (h : Cond.methodLink own idx yX12_back ∈ lw_tbl ∨ ∃ host, Cond.methodLinkNest own idx yX12_back host ∈ lw_tbl) : MLk own idx mX12_back 0 := ⟨h, List.mem_of_getElem? (i := 93) (by decide +kernel), List.mem_of_getElem? (i := 1354) (by decide +kernel), ⟨by decide +kernel, by decide +kernel⟩, by decide +kernel, by decide⟩
theorem mvX12_back (own : String) (idx : Nat) (h : Cond.methodLink own idx yX12_back ∈ lw_tbl ∨ ∃ host, Cond.methodLinkNest own idx yX12_back host ∈ lw_tbl) : MV own idx mX12_back 0 := ⟨mkX12_back own idx h, List.mem_of_getElem? (i := 1352) (by decide +kernel), List.mem_of_getElem? (i := 1353) (by decide +kernel)⟩
theorem mkX12_tells (own : String) (idx : Nat) (h : Cond.methodLink own idx yX12_tells ∈ lw_tbl ∨ ∃ host, Cond.methodLinkNest own idx yX12_tells host ∈ lw_tbl) : MLk own idx mX12_tells 1 := ⟨h, List.mem_of_getElem? (i := 93) (by decide +kernel), List.mem_of_getElem? (i := 1363) (by decide +kernel), ⟨by decide +kernel, by decide +kernel⟩, by decide +kernel, by decide⟩
theorem mvX12_tells (own : String) (idx : Nat) (h : Cond.methodLink own idx yX12_tells ∈ lw_tbl ∨ ∃ host, Cond.methodLinkNest own idx yX12_tells host ∈ lw_tbl) : MV own idx mX12_tells 1 := ⟨mkX12_tells own idx h, List.mem_of_getElem? (i := 1362) (by decide +kernel), List.mem_of_getElem? (i := 79) (by decide +kernel)⟩
theorem mkX12_told (own : String) (idx : Nat) (h : Cond.methodLink own idx yX12_told ∈ lw_tbl ∨ ∃ host, Cond.methodLinkNest own idx yX12_told host ∈ lw_tbl) : MLk own idx mX12_told 1 := ⟨h, List.mem_of_getElem? (i := 93) (by decide +kernel), List.mem_of_getElem? (i := 1358) (by decide +kernel), ⟨by decide +kernel, by decide +kernel⟩, by decide +kernel, by decide⟩
theorem mvX12_told (own : String) (idx : Nat) (h : Cond.methodLink own idx yX12_told ∈ lw_tbl ∨ ∃ host, Cond.methodLinkNest own idx yX12_told host ∈ lw_tbl) : MV own idx mX12_told 1 := ⟨mkX12_told own idx h, List.mem_of_getElem? (i := 1356) (by decide +kernel), List.mem_of_getElem? (i := 1357) (by decide +kernel)⟩
theorem mkX12_digest (own : String) (idx : Nat) (h : Cond.methodLink own idx yX12_digest ∈ lw_tbl ∨ ∃ host, Cond.methodLinkNest own idx yX12_digest host ∈ lw_tbl) : MLk own idx mX12_digest 0 := ⟨h, List.mem_of_getElem? (i := 93) (by decide +kernel), List.mem_of_getElem? (i := 1367) (by decide +kernel), ⟨by decide +kernel, by decide +kernel⟩, by decide +kernel, by decide⟩
theorem mvX12_digest (own : String) (idx : Nat) (h : Cond.methodLink own idx yX12_digest ∈ lw_tbl ∨ ∃ host, Cond.methodLinkNest own idx yX12_digest host ∈ lw_tbl) : MV own idx mX12_digest 0 := ⟨mkX12_digest own idx h, List.mem_of_getElem? (i := 1365) (by decide +kernel), List.mem_of_getElem? (i := 1366) (by decide +kernel)⟩
theorem mkJ6_bitCount_0f7a4 (own : String) (idx : Nat) (h : Cond.methodLink own idx yJ6_bitCount_0f7a4 ∈ lw_tbl ∨ ∃ host, Cond.methodLinkNest own idx yJ6_bitCount_0f7a4 host ∈ lw_tbl) : MLk own idx mJ6_bitCount_0f7a4 1 := ⟨h, List.mem_of_getElem? (i := 96) (by decide +kernel), List.mem_of_getElem? (i := 517) (by decide +kernel), ⟨by decide +kernel, by decide +kernel⟩, by decide +kernel, by decide⟩
theorem msJ6_bitCount_0f7a4 (own : String) (idx : Nat) (h : Cond.methodLink own idx yJ6_bitCount_0f7a4 ∈ lw_tbl ∨ ∃ host, Cond.methodLinkNest own idx yJ6_bitCount_0f7a4 host ∈ lw_tbl) : MS own idx mJ6_bitCount_0f7a4 1 := ⟨mkJ6_bitCount_0f7a4 own idx h, List.mem_of_getElem? (i := 516) (by decide +kernel)⟩
theorem mkJ9_abs_0f7a4 (own : String) (idx : Nat) (h : Cond.methodLink own idx yJ9_abs_0f7a4 ∈ lw_tbl ∨ ∃ host, Cond.methodLinkNest own idx yJ9_abs_0f7a4 host ∈ lw_tbl) : MLk own idx mJ9_abs_0f7a4 1 := ⟨h, List.mem_of_getElem? (i := 95) (by decide +kernel), List.mem_of_getElem? (i := 523) (by decide +kernel), ⟨by decide +kernel, by decide +kernel⟩, by decide +kernel, by decide⟩
theorem msJ9_abs_0f7a4 (own : String) (idx : Nat) (h : Cond.methodLink own idx yJ9_abs_0f7a4 ∈ lw_tbl ∨ ∃ host, Cond.methodLinkNest own idx yJ9_abs_0f7a4 host ∈ lw_tbl) : MS own idx mJ9_abs_0f7a4 1 := ⟨mkJ9_abs_0f7a4 own idx h, List.mem_of_getElem? (i := 522) (by decide +kernel)⟩
theorem mkJ9_max_7cf53 (own : String) (idx : Nat) (h : Cond.methodLink own idx yJ9_max_7cf53 ∈ lw_tbl ∨ ∃ host, Cond.methodLinkNest own idx yJ9_max_7cf53 host ∈ lw_tbl) : MLk own idx mJ9_max_7cf53 2 := ⟨h, List.mem_of_getElem? (i := 95) (by decide +kernel), List.mem_of_getElem? (i := 595) (by decide +kernel), ⟨by decide +kernel, by decide +kernel⟩, by decide +kernel, by decide⟩
theorem msJ9_max_7cf53 (own : String) (idx : Nat) (h : Cond.methodLink own idx yJ9_max_7cf53 ∈ lw_tbl ∨ ∃ host, Cond.methodLinkNest own idx yJ9_max_7cf53 host ∈ lw_tbl) : MS own idx mJ9_max_7cf53 2 := ⟨mkJ9_max_7cf53 own idx h, List.mem_of_getElem? (i := 594) (by decide +kernel)⟩
theorem mkJ9_min_7cf53 (own : String) (idx : Nat) (h : Cond.methodLink own idx yJ9_min_7cf53 ∈ lw_tbl ∨ ∃ host, Cond.methodLinkNest own idx yJ9_min_7cf53 host ∈ lw_tbl) : MLk own idx mJ9_min_7cf53 2 := ⟨h, List.mem_of_getElem? (i := 95) (by decide +kernel), List.mem_of_getElem? (i := 424) (by decide +kernel), ⟨by decide +kernel, by decide +kernel⟩, by decide +kernel, by decide⟩
theorem msJ9_min_7cf53 (own : String) (idx : Nat) (h : Cond.methodLink own idx yJ9_min_7cf53 ∈ lw_tbl ∨ ∃ host, Cond.methodLinkNest own idx yJ9_min_7cf53 host ∈ lw_tbl) : MS own idx mJ9_min_7cf53 2 := ⟨mkJ9_min_7cf53 own idx h, List.mem_of_getElem? (i := 423) (by decide +kernel)⟩
theorem mkJ7_fill_53178 (own : String) (idx : Nat) (h : Cond.methodLink own idx yJ7_fill_53178 ∈ lw_tbl ∨ ∃ host, Cond.methodLinkNest own idx yJ7_fill_53178 host ∈ lw_tbl) : MLk own idx mJ7_fill_53178 2 := ⟨h, List.mem_of_getElem? (i := 97) (by decide +kernel), List.mem_of_getElem? (i := 579) (by decide +kernel), ⟨by decide +kernel, by decide +kernel⟩, by decide +kernel, by decide⟩
theorem msJ7_fill_53178 (own : String) (idx : Nat) (h : Cond.methodLink own idx yJ7_fill_53178 ∈ lw_tbl ∨ ∃ host, Cond.methodLinkNest own idx yJ7_fill_53178 host ∈ lw_tbl) : MS own idx mJ7_fill_53178 2 := ⟨mkJ7_fill_53178 own idx h, List.mem_of_getElem? (i := 578) (by decide +kernel)⟩
end
section
theorem cd0 : CD 0 RX0 TX0 4 tyX0 := ⟨rfl, by decide +kernel, tyX0_ok, nmX0⟩
theorem cd1 : CD 1 RX1 TX1 2 tyX1 := ⟨rfl, by decide +kernel, tyX1_ok, nmX1⟩
theorem cd2 : CD 2 RX2 TX2 1 tyX2 := ⟨rfl, by decide +kernel, tyX2_ok, nmX2⟩
theorem cd3 : CD 3 RX3 TX3 3 tyX3 := ⟨rfl, by decide +kernel, tyX3_ok, nmX3⟩
theorem cd4 : CD 4 RX4 TX4 7 tyX4 := ⟨rfl, by decide +kernel, tyX4_ok, nmX4⟩
theorem cd5 : CD 5 RX5 TX5 3 tyX5 := ⟨rfl, by decide +kernel, tyX5_ok, nmX5⟩
theorem cd6 : CD 6 RX6 TX6 2 tyX6 := ⟨rfl, by decide +kernel, tyX6_ok, nmX6⟩
theorem cd7 : CD 7 RX7 TX7 7 tyX7 := ⟨rfl, by decide +kernel, tyX7_ok, nmX7⟩
theorem cd8 : CD 8 RX8 TX8 2 tyX8 := ⟨rfl, by decide +kernel, tyX8_ok, nmX8⟩
theorem cd9 : CD 9 RX9 TX9 3 tyX9 := ⟨rfl, by decide +kernel, tyX9_ok, nmX9⟩
theorem cd10 : CD 10 RX10 TX10 2 tyX10 := ⟨rfl, by decide +kernel, tyX10_ok, nmX10⟩
theorem cd11 : CD 11 RX11 TX11 10 tyX11 := ⟨rfl, by decide +kernel, tyX11_ok, nmX11⟩
theorem cd12 : CD 12 RX12 TX12 13 tyX12 := ⟨rfl, by decide +kernel, tyX12_ok, nmX12⟩
theorem lL_9 : MI RL 9 mX11_init 0 := miX11_init _ _ (Or.inl (List.mem_of_getElem? (i := 100) (by decide +kernel)))
theorem lX11_9 : MI RX11 9 mX9_init 0 := miX9_init _ _ (Or.inr ⟨"GestureBook", List.mem_of_getElem? (i := 108) (by decide +kernel)⟩)
theorem lX9_11 : MI RX9 11 mX3_init 0 := miX3_init _ _ (Or.inr ⟨"GestureBook", List.mem_of_getElem? (i := 114) (by decide +kernel)⟩)
theorem flX3_9 : FL RX3 9 3 0 true (.array .int) := ⟨RX3, TX3, 3, tyX3, cd3, by decide, rfl, rfl, Or.inl (List.mem_of_getElem? (i := 118) (by decide +kernel))⟩
theorem flX3_15 : FL RX3 15 3 1 true (.array .int) := ⟨RX3, TX3, 3, tyX3, cd3, by decide, rfl, rfl, Or.inl (List.mem_of_getElem? (i := 119) (by decide +kernel))⟩
theorem flX3_18 : FL RX3 18 3 2 false (.int) := ⟨RX3, TX3, 3, tyX3, cd3, by decide, rfl, rfl, Or.inl (List.mem_of_getElem? (i := 120) (by decide +kernel))⟩
theorem flX1_24 : FL RX1 24 3 2 false (.int) := ⟨RX3, TX3, 3, tyX3, cd3, by decide, rfl, rfl, Or.inr ⟨"GestureBook", List.mem_of_getElem? (i := 121) (by decide +kernel)⟩⟩
theorem flX2_21 : FL RX2 21 3 2 false (.int) := ⟨RX3, TX3, 3, tyX3, cd3, by decide, rfl, rfl, Or.inr ⟨"GestureBook", List.mem_of_getElem? (i := 122) (by decide +kernel)⟩⟩
theorem flX11_347 : FL RX11 347 3 2 false (.int) := ⟨RX3, TX3, 3, tyX3, cd3, by decide, rfl, rfl, Or.inr ⟨"GestureBook", List.mem_of_getElem? (i := 123) (by decide +kernel)⟩⟩
theorem lX9_20 : MI RX9 20 mX8_init 0 := miX8_init _ _ (Or.inr ⟨"GestureBook", List.mem_of_getElem? (i := 134) (by decide +kernel)⟩)
theorem flX8_11 : FL RX8 11 8 0 true (.array .int) := ⟨RX8, TX8, 2, tyX8, cd8, by decide, rfl, rfl, Or.inl (List.mem_of_getElem? (i := 138) (by decide +kernel))⟩
theorem flX8_15 : FL RX8 15 8 1 false (.int) := ⟨RX8, TX8, 2, tyX8, cd8, by decide, rfl, rfl, Or.inl (List.mem_of_getElem? (i := 139) (by decide +kernel))⟩
theorem flX6_19 : FL RX6 19 8 1 false (.int) := ⟨RX8, TX8, 2, tyX8, cd8, by decide, rfl, rfl, Or.inr ⟨"GestureBook", List.mem_of_getElem? (i := 140) (by decide +kernel)⟩⟩
theorem flX10_24 : FL RX10 24 8 1 false (.int) := ⟨RX8, TX8, 2, tyX8, cd8, by decide, rfl, rfl, Or.inr ⟨"GestureBook", List.mem_of_getElem? (i := 141) (by decide +kernel)⟩⟩
theorem flX4_47 : FL RX4 47 8 1 false (.int) := ⟨RX8, TX8, 2, tyX8, cd8, by decide, rfl, rfl, Or.inr ⟨"GestureBook", List.mem_of_getElem? (i := 142) (by decide +kernel)⟩⟩
theorem flX11_326 : FL RX11 326 8 1 false (.int) := ⟨RX8, TX8, 2, tyX8, cd8, by decide, rfl, rfl, Or.inr ⟨"GestureBook", List.mem_of_getElem? (i := 143) (by decide +kernel)⟩⟩
theorem flX9_12 : FL RX9 12 9 0 true (.object "GestureBook$Lexicon") := ⟨RX9, TX9, 3, tyX9, cd9, by decide, rfl, rfl, Or.inl (List.mem_of_getElem? (i := 149) (by decide +kernel))⟩
theorem flX11_80 : FL RX11 80 9 0 true (.object "GestureBook$Lexicon") := ⟨RX9, TX9, 3, tyX9, cd9, by decide, rfl, rfl, Or.inl (List.mem_of_getElem? (i := 150) (by decide +kernel))⟩
theorem flX9_21 : FL RX9 21 9 1 true (.object "GestureBook$Sentence") := ⟨RX9, TX9, 3, tyX9, cd9, by decide, rfl, rfl, Or.inl (List.mem_of_getElem? (i := 151) (by decide +kernel))⟩
theorem flX10_18 : FL RX10 18 9 1 true (.object "GestureBook$Sentence") := ⟨RX9, TX9, 3, tyX9, cd9, by decide, rfl, rfl, Or.inl (List.mem_of_getElem? (i := 152) (by decide +kernel))⟩
theorem flX4_41 : FL RX4 41 9 1 true (.object "GestureBook$Sentence") := ⟨RX9, TX9, 3, tyX9, cd9, by decide, rfl, rfl, Or.inl (List.mem_of_getElem? (i := 153) (by decide +kernel))⟩
theorem flX11_179 : FL RX11 179 9 1 true (.object "GestureBook$Sentence") := ⟨RX9, TX9, 3, tyX9, cd9, by decide, rfl, rfl, Or.inl (List.mem_of_getElem? (i := 154) (by decide +kernel))⟩
theorem flX9_25 : FL RX9 25 9 2 true (.array .int) := ⟨RX9, TX9, 3, tyX9, cd9, by decide, rfl, rfl, Or.inl (List.mem_of_getElem? (i := 155) (by decide +kernel))⟩
theorem flX11_217 : FL RX11 217 9 2 true (.array .int) := ⟨RX9, TX9, 3, tyX9, cd9, by decide, rfl, rfl, Or.inl (List.mem_of_getElem? (i := 156) (by decide +kernel))⟩
theorem lX11_18 : MI RX11 18 mX5_init 0 := miX5_init _ _ (Or.inl (List.mem_of_getElem? (i := 166) (by decide +kernel)))
theorem lX5_24 : MI RX5 24 mX9_init 0 := miX9_init _ _ (Or.inr ⟨"GestureBook", List.mem_of_getElem? (i := 172) (by decide +kernel)⟩)
theorem flX5_13 : FL RX5 13 5 0 true (.array (.object "GestureBook$State")) := ⟨RX5, TX5, 3, tyX5, cd5, by decide, rfl, rfl, Or.inl (List.mem_of_getElem? (i := 173) (by decide +kernel))⟩
theorem flX5_17 : FL RX5 17 5 1 false (.int) := ⟨RX5, TX5, 3, tyX5, cd5, by decide, rfl, rfl, Or.inl (List.mem_of_getElem? (i := 174) (by decide +kernel))⟩
theorem flX5_21 : FL RX5 21 5 2 false (.int) := ⟨RX5, TX5, 3, tyX5, cd5, by decide, rfl, rfl, Or.inl (List.mem_of_getElem? (i := 175) (by decide +kernel))⟩
theorem flX11_348 : FL RX11 348 5 2 false (.int) := ⟨RX5, TX5, 3, tyX5, cd5, by decide, rfl, rfl, Or.inr ⟨"GestureBook", List.mem_of_getElem? (i := 176) (by decide +kernel)⟩⟩
theorem lX11_25 : MI RX11 25 mX7_init 0 := miX7_init _ _ (Or.inr ⟨"GestureBook", List.mem_of_getElem? (i := 186) (by decide +kernel)⟩)
theorem flX7_9 : FL RX7 9 7 0 true (.array .int) := ⟨RX7, TX7, 7, tyX7, cd7, by decide, rfl, rfl, Or.inl (List.mem_of_getElem? (i := 190) (by decide +kernel))⟩
theorem flX7_15 : FL RX7 15 7 1 false (.int) := ⟨RX7, TX7, 7, tyX7, cd7, by decide, rfl, rfl, Or.inl (List.mem_of_getElem? (i := 191) (by decide +kernel))⟩
theorem flX11_344 : FL RX11 344 7 1 false (.int) := ⟨RX7, TX7, 7, tyX7, cd7, by decide, rfl, rfl, Or.inr ⟨"GestureBook", List.mem_of_getElem? (i := 192) (by decide +kernel)⟩⟩
theorem flX7_19 : FL RX7 19 7 2 false (.int) := ⟨RX7, TX7, 7, tyX7, cd7, by decide, rfl, rfl, Or.inl (List.mem_of_getElem? (i := 193) (by decide +kernel))⟩
theorem flX7_22 : FL RX7 22 7 3 true (.array .int) := ⟨RX7, TX7, 7, tyX7, cd7, by decide, rfl, rfl, Or.inl (List.mem_of_getElem? (i := 194) (by decide +kernel))⟩
theorem flX7_25 : FL RX7 25 7 4 true (.array .int) := ⟨RX7, TX7, 7, tyX7, cd7, by decide, rfl, rfl, Or.inl (List.mem_of_getElem? (i := 195) (by decide +kernel))⟩
theorem flX7_28 : FL RX7 28 7 5 true (.array .int) := ⟨RX7, TX7, 7, tyX7, cd7, by decide, rfl, rfl, Or.inl (List.mem_of_getElem? (i := 196) (by decide +kernel))⟩
theorem flX7_31 : FL RX7 31 7 6 false (.int) := ⟨RX7, TX7, 7, tyX7, cd7, by decide, rfl, rfl, Or.inl (List.mem_of_getElem? (i := 197) (by decide +kernel))⟩
theorem flX11_249 : FL RX11 249 7 6 false (.int) := ⟨RX7, TX7, 7, tyX7, cd7, by decide, rfl, rfl, Or.inr ⟨"GestureBook", List.mem_of_getElem? (i := 198) (by decide +kernel)⟩⟩
theorem lX11_32 : MI RX11 32 mX4_init 0 := miX4_init _ _ (Or.inr ⟨"GestureBook", List.mem_of_getElem? (i := 216) (by decide +kernel)⟩)
theorem flX4_9 : FL RX4 9 4 0 true (.array .int) := ⟨RX4, TX4, 7, tyX4, cd4, by decide, rfl, rfl, Or.inl (List.mem_of_getElem? (i := 220) (by decide +kernel))⟩
theorem flX4_15 : FL RX4 15 4 1 true (.array .int) := ⟨RX4, TX4, 7, tyX4, cd4, by decide, rfl, rfl, Or.inl (List.mem_of_getElem? (i := 221) (by decide +kernel))⟩
theorem flX11_313 : FL RX11 313 4 1 true (.array .int) := ⟨RX4, TX4, 7, tyX4, cd4, by decide, rfl, rfl, Or.inr ⟨"GestureBook", List.mem_of_getElem? (i := 222) (by decide +kernel)⟩⟩
theorem flX4_18 : FL RX4 18 4 2 true (.array .boolean) := ⟨RX4, TX4, 7, tyX4, cd4, by decide, rfl, rfl, Or.inl (List.mem_of_getElem? (i := 223) (by decide +kernel))⟩
theorem flX11_316 : FL RX11 316 4 2 true (.array .boolean) := ⟨RX4, TX4, 7, tyX4, cd4, by decide, rfl, rfl, Or.inr ⟨"GestureBook", List.mem_of_getElem? (i := 224) (by decide +kernel)⟩⟩
theorem flX4_22 : FL RX4 22 4 3 true (.array .int) := ⟨RX4, TX4, 7, tyX4, cd4, by decide, rfl, rfl, Or.inl (List.mem_of_getElem? (i := 225) (by decide +kernel))⟩
theorem flX11_320 : FL RX11 320 4 3 true (.array .int) := ⟨RX4, TX4, 7, tyX4, cd4, by decide, rfl, rfl, Or.inr ⟨"GestureBook", List.mem_of_getElem? (i := 226) (by decide +kernel)⟩⟩
theorem flX4_25 : FL RX4 25 4 4 true (.array .int) := ⟨RX4, TX4, 7, tyX4, cd4, by decide, rfl, rfl, Or.inl (List.mem_of_getElem? (i := 227) (by decide +kernel))⟩
theorem flX11_323 : FL RX11 323 4 4 true (.array .int) := ⟨RX4, TX4, 7, tyX4, cd4, by decide, rfl, rfl, Or.inr ⟨"GestureBook", List.mem_of_getElem? (i := 228) (by decide +kernel)⟩⟩
theorem flX4_28 : FL RX4 28 4 5 false (.int) := ⟨RX4, TX4, 7, tyX4, cd4, by decide, rfl, rfl, Or.inl (List.mem_of_getElem? (i := 229) (by decide +kernel))⟩
theorem flX11_329 : FL RX11 329 4 5 false (.int) := ⟨RX4, TX4, 7, tyX4, cd4, by decide, rfl, rfl, Or.inr ⟨"GestureBook", List.mem_of_getElem? (i := 230) (by decide +kernel)⟩⟩
theorem flX4_32 : FL RX4 32 4 6 false (.int) := ⟨RX4, TX4, 7, tyX4, cd4, by decide, rfl, rfl, Or.inl (List.mem_of_getElem? (i := 231) (by decide +kernel))⟩
theorem flX11_332 : FL RX11 332 4 6 false (.int) := ⟨RX4, TX4, 7, tyX4, cd4, by decide, rfl, rfl, Or.inr ⟨"GestureBook", List.mem_of_getElem? (i := 232) (by decide +kernel)⟩⟩
theorem lX11_39 : MI RX11 39 mX10_init 0 := miX10_init _ _ (Or.inr ⟨"GestureBook", List.mem_of_getElem? (i := 251) (by decide +kernel)⟩)
theorem flX10_9 : FL RX10 9 10 0 false (.int) := ⟨RX10, TX10, 2, tyX10, cd10, by decide, rfl, rfl, Or.inl (List.mem_of_getElem? (i := 255) (by decide +kernel))⟩
theorem flX11_335 : FL RX11 335 10 0 false (.int) := ⟨RX10, TX10, 2, tyX10, cd10, by decide, rfl, rfl, Or.inr ⟨"GestureBook", List.mem_of_getElem? (i := 256) (by decide +kernel)⟩⟩
theorem flX10_15 : FL RX10 15 10 1 false (.int) := ⟨RX10, TX10, 2, tyX10, cd10, by decide, rfl, rfl, Or.inl (List.mem_of_getElem? (i := 257) (by decide +kernel))⟩
theorem flX11_338 : FL RX11 338 10 1 false (.int) := ⟨RX10, TX10, 2, tyX10, cd10, by decide, rfl, rfl, Or.inr ⟨"GestureBook", List.mem_of_getElem? (i := 258) (by decide +kernel)⟩⟩
theorem lX11_46 : MI RX11 46 mX6_init 0 := miX6_init _ _ (Or.inr ⟨"GestureBook", List.mem_of_getElem? (i := 266) (by decide +kernel)⟩)
theorem flX6_9 : FL RX6 9 6 0 true (.array .int) := ⟨RX6, TX6, 2, tyX6, cd6, by decide, rfl, rfl, Or.inl (List.mem_of_getElem? (i := 270) (by decide +kernel))⟩
theorem flX0_36 : FL RX0 36 6 0 true (.array .int) := ⟨RX6, TX6, 2, tyX6, cd6, by decide, rfl, rfl, Or.inr ⟨"GestureBook", List.mem_of_getElem? (i := 271) (by decide +kernel)⟩⟩
theorem flX6_15 : FL RX6 15 6 1 false (.int) := ⟨RX6, TX6, 2, tyX6, cd6, by decide, rfl, rfl, Or.inl (List.mem_of_getElem? (i := 272) (by decide +kernel))⟩
theorem flX0_31 : FL RX0 31 6 1 false (.int) := ⟨RX6, TX6, 2, tyX6, cd6, by decide, rfl, rfl, Or.inr ⟨"GestureBook", List.mem_of_getElem? (i := 273) (by decide +kernel)⟩⟩
theorem lX11_53 : MI RX11 53 mX0_init 0 := miX0_init _ _ (Or.inr ⟨"GestureBook", List.mem_of_getElem? (i := 281) (by decide +kernel)⟩)
theorem flX0_9 : FL RX0 9 0 0 true (.array .int) := ⟨RX0, TX0, 4, tyX0, cd0, by decide, rfl, rfl, Or.inl (List.mem_of_getElem? (i := 285) (by decide +kernel))⟩
theorem flX0_15 : FL RX0 15 0 1 true (.array .int) := ⟨RX0, TX0, 4, tyX0, cd0, by decide, rfl, rfl, Or.inl (List.mem_of_getElem? (i := 286) (by decide +kernel))⟩
theorem flX0_18 : FL RX0 18 0 2 true (.array .int) := ⟨RX0, TX0, 4, tyX0, cd0, by decide, rfl, rfl, Or.inl (List.mem_of_getElem? (i := 287) (by decide +kernel))⟩
theorem flX11_227 : FL RX11 227 0 2 true (.array .int) := ⟨RX0, TX0, 4, tyX0, cd0, by decide, rfl, rfl, Or.inr ⟨"GestureBook", List.mem_of_getElem? (i := 288) (by decide +kernel)⟩⟩
theorem flX0_21 : FL RX0 21 0 3 false (.int) := ⟨RX0, TX0, 4, tyX0, cd0, by decide, rfl, rfl, Or.inl (List.mem_of_getElem? (i := 289) (by decide +kernel))⟩
theorem flX11_223 : FL RX11 223 0 3 false (.int) := ⟨RX0, TX0, 4, tyX0, cd0, by decide, rfl, rfl, Or.inr ⟨"GestureBook", List.mem_of_getElem? (i := 290) (by decide +kernel)⟩⟩
theorem lX11_60 : MI RX11 60 mX1_init 0 := miX1_init _ _ (Or.inr ⟨"GestureBook", List.mem_of_getElem? (i := 302) (by decide +kernel)⟩)
theorem flX1_9 : FL RX1 9 1 0 true (.array .int) := ⟨RX1, TX1, 2, tyX1, cd1, by decide, rfl, rfl, Or.inl (List.mem_of_getElem? (i := 306) (by decide +kernel))⟩
theorem flX1_15 : FL RX1 15 1 1 true (.array .int) := ⟨RX1, TX1, 2, tyX1, cd1, by decide, rfl, rfl, Or.inl (List.mem_of_getElem? (i := 307) (by decide +kernel))⟩
theorem lX11_67 : MI RX11 67 mX2_init 0 := miX2_init _ _ (Or.inr ⟨"GestureBook", List.mem_of_getElem? (i := 315) (by decide +kernel)⟩)
theorem flX2_11 : FL RX2 11 2 0 true (.array .int) := ⟨RX2, TX2, 1, tyX2, cd2, by decide, rfl, rfl, Or.inl (List.mem_of_getElem? (i := 319) (by decide +kernel))⟩
theorem flX11_10 : FL RX11 10 11 0 true (.object "GestureBook$State") := ⟨RX11, TX11, 10, tyX11, cd11, by decide, rfl, rfl, Or.inl (List.mem_of_getElem? (i := 323) (by decide +kernel))⟩
theorem flX11_19 : FL RX11 19 11 1 true (.object "GestureBook$Past") := ⟨RX11, TX11, 10, tyX11, cd11, by decide, rfl, rfl, Or.inl (List.mem_of_getElem? (i := 324) (by decide +kernel))⟩
theorem flX11_26 : FL RX11 26 11 2 true (.object "GestureBook$Script") := ⟨RX11, TX11, 10, tyX11, cd11, by decide, rfl, rfl, Or.inl (List.mem_of_getElem? (i := 325) (by decide +kernel))⟩
theorem flX11_33 : FL RX11 33 11 3 true (.object "GestureBook$Meaning") := ⟨RX11, TX11, 10, tyX11, cd11, by decide, rfl, rfl, Or.inl (List.mem_of_getElem? (i := 326) (by decide +kernel))⟩
theorem flX11_40 : FL RX11 40 11 4 true (.object "GestureBook$WordOrder") := ⟨RX11, TX11, 10, tyX11, cd11, by decide, rfl, rfl, Or.inl (List.mem_of_getElem? (i := 327) (by decide +kernel))⟩
theorem flX11_47 : FL RX11 47 11 5 true (.object "GestureBook$Path") := ⟨RX11, TX11, 10, tyX11, cd11, by decide, rfl, rfl, Or.inl (List.mem_of_getElem? (i := 328) (by decide +kernel))⟩
theorem flX11_54 : FL RX11 54 11 6 true (.object "GestureBook$Arranger") := ⟨RX11, TX11, 10, tyX11, cd11, by decide, rfl, rfl, Or.inl (List.mem_of_getElem? (i := 329) (by decide +kernel))⟩
theorem flX11_61 : FL RX11 61 11 7 true (.object "GestureBook$Clusters") := ⟨RX11, TX11, 10, tyX11, cd11, by decide, rfl, rfl, Or.inl (List.mem_of_getElem? (i := 330) (by decide +kernel))⟩
theorem flX11_68 : FL RX11 68 11 8 true (.object "GestureBook$Contrasts") := ⟨RX11, TX11, 10, tyX11, cd11, by decide, rfl, rfl, Or.inl (List.mem_of_getElem? (i := 331) (by decide +kernel))⟩
theorem flX11_72 : FL RX11 72 11 9 true (.array .int) := ⟨RX11, TX11, 10, tyX11, cd11, by decide, rfl, rfl, Or.inl (List.mem_of_getElem? (i := 332) (by decide +kernel))⟩
theorem lL_13 : MV RL 13 mX11_sign 5 := mvX11_sign _ _ (Or.inl (List.mem_of_getElem? (i := 354) (by decide +kernel)))
theorem lX11_76 : MV RX11 76 mX5_stage 1 := mvX5_stage _ _ (Or.inl (List.mem_of_getElem? (i := 358) (by decide +kernel)))
theorem lX5_25 : MV RX5 25 mX9_copyFrom 1 := mvX9_copyFrom _ _ (Or.inl (List.mem_of_getElem? (i := 362) (by decide +kernel)))
theorem lX9_29 : MV RX9 29 mX3_copyFrom 1 := mvX3_copyFrom _ _ (Or.inl (List.mem_of_getElem? (i := 366) (by decide +kernel)))
theorem acX3_22 : Cond.methodLink RX3 22 arraycopyName ∈ lw_tbl := List.mem_of_getElem? (i := 370) (by decide +kernel)
theorem lX9_33 : MV RX9 33 mX8_copyFrom 1 := mvX8_copyFrom _ _ (Or.inl (List.mem_of_getElem? (i := 373) (by decide +kernel)))
theorem acX8_19 : Cond.methodLink RX8 19 arraycopyName ∈ lw_tbl := List.mem_of_getElem? (i := 377) (by decide +kernel)
theorem acX9_36 : Cond.methodLink RX9 36 arraycopyName ∈ lw_tbl := List.mem_of_getElem? (i := 378) (by decide +kernel)
theorem lX11_84 : MV RX11 84 mX3_addSign 5 := mvX3_addSign _ _ (Or.inl (List.mem_of_getElem? (i := 379) (by decide +kernel)))
theorem lX3_36 : MS RX3 36 mX11_areWithin 5 := msX11_areWithin _ _ (Or.inr ⟨"GestureBook", List.mem_of_getElem? (i := 383) (by decide +kernel)⟩)
theorem lX11_112 : MS RX11 112 mX11_isWithin 3 := msX11_isWithin _ _ (Or.inl (List.mem_of_getElem? (i := 386) (by decide +kernel)))
theorem lX3_28 : MS RX3 28 mX11_isWithin 3 := msX11_isWithin _ _ (Or.inr ⟨"GestureBook", List.mem_of_getElem? (i := 389) (by decide +kernel)⟩)
theorem lX3_40 : MV RX3 40 mX3_ask 4 := mvX3_ask _ _ (Or.inl (List.mem_of_getElem? (i := 390) (by decide +kernel)))
theorem lX3_32 : MV RX3 32 mX3_setTrait 3 := mvX3_setTrait _ _ (Or.inl (List.mem_of_getElem? (i := 394) (by decide +kernel)))
theorem lX3_44 : MV RX3 44 mX3_appendAsked 0 := mvX3_appendAsked _ _ (Or.inl (List.mem_of_getElem? (i := 398) (by decide +kernel)))
theorem lX3_48 : MV RX3 48 mX3_hasEqual 1 := mvX3_hasEqual _ _ (Or.inl (List.mem_of_getElem? (i := 402) (by decide +kernel)))
theorem lX3_52 : MV RX3 52 mX3_differingParts 2 := mvX3_differingParts _ _ (Or.inl (List.mem_of_getElem? (i := 406) (by decide +kernel)))
theorem lX3_59 : MV RX3 59 mX3_trait 2 := mvX3_trait _ _ (Or.inl (List.mem_of_getElem? (i := 410) (by decide +kernel)))
theorem lX11_90 : MV RX11 90 mX11_undoable 1 := mvX11_undoable _ _ (Or.inl (List.mem_of_getElem? (i := 414) (by decide +kernel)))
theorem lX11_278 : MV RX11 278 mX5_keepStaged 0 := mvX5_keepStaged _ _ (Or.inl (List.mem_of_getElem? (i := 418) (by decide +kernel)))
theorem lX5_29 : MS RX5 29 mJ9_min_7cf53 2 := msJ9_min_7cf53 _ _ (Or.inl (List.mem_of_getElem? (i := 422) (by decide +kernel)))
theorem lX11_116 : MV RX11 116 mX11_counted 1 := mvX11_counted _ _ (Or.inl (List.mem_of_getElem? (i := 425) (by decide +kernel)))
theorem lL_18 : MV RL 18 mX11_becomes 3 := mvX11_becomes _ _ (Or.inl (List.mem_of_getElem? (i := 429) (by decide +kernel)))
theorem lX11_94 : MV RX11 94 mX3_change 3 := mvX3_change _ _ (Or.inl (List.mem_of_getElem? (i := 433) (by decide +kernel)))
theorem lX3_56 : MV RX3 56 mX3_holds 1 := mvX3_holds _ _ (Or.inl (List.mem_of_getElem? (i := 437) (by decide +kernel)))
theorem lL_23 : MV RL 23 mX11_drops 1 := mvX11_drops _ _ (Or.inl (List.mem_of_getElem? (i := 441) (by decide +kernel)))
theorem lX11_98 : MV RX11 98 mX9_removeSign 1 := mvX9_removeSign _ _ (Or.inl (List.mem_of_getElem? (i := 445) (by decide +kernel)))
theorem lX9_53 : MV RX9 53 mX3_holds 1 := mvX3_holds _ _ (Or.inl (List.mem_of_getElem? (i := 449) (by decide +kernel)))
theorem lX9_42 : MV RX9 42 mX8_countOf 1 := mvX8_countOf _ _ (Or.inl (List.mem_of_getElem? (i := 450) (by decide +kernel)))
theorem lX8_33 : MV RX8 33 mX8_signIn 1 := mvX8_signIn _ _ (Or.inl (List.mem_of_getElem? (i := 454) (by decide +kernel)))
theorem lX8_29 : MV RX8 29 mX8_cell 2 := mvX8_cell _ _ (Or.inl (List.mem_of_getElem? (i := 458) (by decide +kernel)))
theorem lX9_57 : MV RX9 57 mX8_renumberAbove 1 := mvX8_renumberAbove _ _ (Or.inl (List.mem_of_getElem? (i := 462) (by decide +kernel)))
theorem lX9_61 : MV RX9 61 mX3_remove 1 := mvX3_remove _ _ (Or.inl (List.mem_of_getElem? (i := 466) (by decide +kernel)))
theorem lL_28 : MV RL 28 mX11_weight 2 := mvX11_weight _ _ (Or.inl (List.mem_of_getElem? (i := 470) (by decide +kernel)))
theorem lX11_101 : MV RX11 101 mX3_setWeight 2 := mvX3_setWeight _ _ (Or.inl (List.mem_of_getElem? (i := 474) (by decide +kernel)))
theorem lL_33 : MV RL 33 mX11_draws 2 := mvX11_draws _ _ (Or.inl (List.mem_of_getElem? (i := 478) (by decide +kernel)))
theorem lX11_105 : MV RX11 105 mX3_addRandom 2 := mvX3_addRandom _ _ (Or.inl (List.mem_of_getElem? (i := 482) (by decide +kernel)))
theorem kX3_62 : Cond.constant RX3 62 (J (999999)) ∈ lw_tbl := List.mem_of_getElem? (i := 486) (by decide +kernel)
theorem kX3_63 : Cond.constantLong RX3 63 (JL (1103515245)) ∈ lw_tbl := List.mem_of_getElem? (i := 487) (by decide +kernel)
theorem kX3_65 : Cond.constantLong RX3 65 (JL (12345)) ∈ lw_tbl := List.mem_of_getElem? (i := 488) (by decide +kernel)
theorem kX3_67 : Cond.constantLong RX3 67 (JL (2147483648)) ∈ lw_tbl := List.mem_of_getElem? (i := 489) (by decide +kernel)
theorem kX3_69 : Cond.constantLong RX3 69 (JL (4)) ∈ lw_tbl := List.mem_of_getElem? (i := 490) (by decide +kernel)
theorem kX3_71 : Cond.constantLong RX3 71 (JL (8)) ∈ lw_tbl := List.mem_of_getElem? (i := 491) (by decide +kernel)
theorem kX3_73 : Cond.constantLong RX3 73 (JL (65536)) ∈ lw_tbl := List.mem_of_getElem? (i := 492) (by decide +kernel)
theorem lL_37 : MV RL 37 mX11_of 2 := mvX11_of _ _ (Or.inl (List.mem_of_getElem? (i := 493) (by decide +kernel)))
theorem lX11_108 : MV RX11 108 mX3_holds 1 := mvX3_holds _ _ (Or.inl (List.mem_of_getElem? (i := 497) (by decide +kernel)))
theorem lX11_119 : MV RX11 119 mX9_signProperty 2 := mvX9_signProperty _ _ (Or.inl (List.mem_of_getElem? (i := 498) (by decide +kernel)))
theorem lX9_46 : MV RX9 46 mX3_trait 2 := mvX3_trait _ _ (Or.inl (List.mem_of_getElem? (i := 502) (by decide +kernel)))
theorem lL_41 : MV RL 41 mX11_apart 3 := mvX11_apart _ _ (Or.inl (List.mem_of_getElem? (i := 503) (by decide +kernel)))
theorem lX11_122 : MV RX11 122 mX3_distance 2 := mvX3_distance _ _ (Or.inl (List.mem_of_getElem? (i := 507) (by decide +kernel)))
theorem lX3_92 : MV RX3 92 mX3_gap 3 := mvX3_gap _ _ (Or.inl (List.mem_of_getElem? (i := 511) (by decide +kernel)))
theorem lX3_75 : MS RX3 75 mJ6_bitCount_0f7a4 1 := msJ6_bitCount_0f7a4 _ _ (Or.inl (List.mem_of_getElem? (i := 515) (by decide +kernel)))
theorem kJ6_265 : Cond.constant RJ6 265 (J (1431655765)) ∈ lw_tbl := List.mem_of_getElem? (i := 518) (by decide +kernel)
theorem kJ6_266 : Cond.constant RJ6 266 (J (858993459)) ∈ lw_tbl := List.mem_of_getElem? (i := 519) (by decide +kernel)
theorem kJ6_267 : Cond.constant RJ6 267 (J (252645135)) ∈ lw_tbl := List.mem_of_getElem? (i := 520) (by decide +kernel)
theorem lX3_81 : MS RX3 81 mJ9_abs_0f7a4 1 := msJ9_abs_0f7a4 _ _ (Or.inl (List.mem_of_getElem? (i := 521) (by decide +kernel)))
theorem lX3_86 : MS RX3 86 mJ9_min_7cf53 2 := msJ9_min_7cf53 _ _ (Or.inl (List.mem_of_getElem? (i := 524) (by decide +kernel)))
theorem lX3_89 : MS RX3 89 mX3_faceGap 2 := msX3_faceGap _ _ (Or.inl (List.mem_of_getElem? (i := 525) (by decide +kernel)))
theorem lX11_125 : MV RX11 125 mX3_gap 3 := mvX3_gap _ _ (Or.inl (List.mem_of_getElem? (i := 528) (by decide +kernel)))
theorem lL_45 : MV RL 45 mX11_look 4 := mvX11_look _ _ (Or.inl (List.mem_of_getElem? (i := 529) (by decide +kernel)))
theorem lX11_128 : MS RX11 128 mX11_areWithin 5 := msX11_areWithin _ _ (Or.inl (List.mem_of_getElem? (i := 533) (by decide +kernel)))
theorem lX11_132 : MV RX11 132 mX3_ask 4 := mvX3_ask _ _ (Or.inl (List.mem_of_getElem? (i := 534) (by decide +kernel)))
theorem lX11_136 : MV RX11 136 mX3_matches 0 := mvX3_matches _ _ (Or.inl (List.mem_of_getElem? (i := 535) (by decide +kernel)))
theorem lX3_96 : MV RX3 96 mX3_matchesAsked 1 := mvX3_matchesAsked _ _ (Or.inl (List.mem_of_getElem? (i := 539) (by decide +kernel)))
theorem lL_50 : MV RL 50 mX11_near 2 := mvX11_near _ _ (Or.inl (List.mem_of_getElem? (i := 543) (by decide +kernel)))
theorem lX11_140 : MV RX11 140 mX3_neighbours 2 := mvX3_neighbours _ _ (Or.inl (List.mem_of_getElem? (i := 547) (by decide +kernel)))
theorem lX3_99 : MV RX3 99 mX3_distance 2 := mvX3_distance _ _ (Or.inl (List.mem_of_getElem? (i := 551) (by decide +kernel)))
theorem lL_54 : MV RL 54 mX11_nearest 4 := mvX11_nearest _ _ (Or.inl (List.mem_of_getElem? (i := 552) (by decide +kernel)))
theorem lX11_143 : MV RX11 143 mX3_closest 0 := mvX3_closest _ _ (Or.inl (List.mem_of_getElem? (i := 556) (by decide +kernel)))
theorem kX3_102 : Cond.constant RX3 102 (J (2147483647)) ∈ lw_tbl := List.mem_of_getElem? (i := 560) (by decide +kernel)
theorem lL_58 : MV RL 58 mX11_sorts 1 := mvX11_sorts _ _ (Or.inl (List.mem_of_getElem? (i := 561) (by decide +kernel)))
theorem lX11_146 : MV RX11 146 mX3_countOfSort 1 := mvX3_countOfSort _ _ (Or.inl (List.mem_of_getElem? (i := 565) (by decide +kernel)))
theorem lL_62 : MV RL 62 mX11_groups 2 := mvX11_groups _ _ (Or.inl (List.mem_of_getElem? (i := 569) (by decide +kernel)))
theorem lX11_149 : MV RX11 149 mX1_find 2 := mvX1_find _ _ (Or.inl (List.mem_of_getElem? (i := 573) (by decide +kernel)))
theorem lX1_18 : MS RX1 18 mJ7_fill_53178 2 := msJ7_fill_53178 _ _ (Or.inl (List.mem_of_getElem? (i := 577) (by decide +kernel)))
theorem lX1_30 : MV RX1 30 mX3_distance 2 := mvX3_distance _ _ (Or.inl (List.mem_of_getElem? (i := 580) (by decide +kernel)))
theorem lX1_34 : MV RX1 34 mX1_join 3 := mvX1_join _ _ (Or.inl (List.mem_of_getElem? (i := 581) (by decide +kernel)))
theorem lX11_153 : MV RX11 153 mX1_number 0 := mvX1_number _ _ (Or.inl (List.mem_of_getElem? (i := 585) (by decide +kernel)))
theorem lX11_156 : MV RX11 156 mX1_greatest 0 := mvX1_greatest _ _ (Or.inl (List.mem_of_getElem? (i := 589) (by decide +kernel)))
theorem lX1_38 : MS RX1 38 mJ9_max_7cf53 2 := msJ9_max_7cf53 _ _ (Or.inl (List.mem_of_getElem? (i := 593) (by decide +kernel)))
theorem lL_66 : MV RL 66 mX11_twins 1 := mvX11_twins _ _ (Or.inl (List.mem_of_getElem? (i := 596) (by decide +kernel)))
theorem lX11_159 : MV RX11 159 mX2_compare 1 := mvX2_compare _ _ (Or.inl (List.mem_of_getElem? (i := 600) (by decide +kernel)))
theorem lX2_15 : MS RX2 15 mJ7_fill_53178 2 := msJ7_fill_53178 _ _ (Or.inl (List.mem_of_getElem? (i := 604) (by decide +kernel)))
theorem lX2_27 : MV RX2 27 mX3_differingParts 2 := mvX3_differingParts _ _ (Or.inl (List.mem_of_getElem? (i := 605) (by decide +kernel)))
theorem lX11_163 : MV RX11 163 mX2_minimalPairs 1 := mvX2_minimalPairs _ _ (Or.inl (List.mem_of_getElem? (i := 606) (by decide +kernel)))
theorem lL_70 : MV RL 70 mX11_enough 1 := mvX11_enough _ _ (Or.inl (List.mem_of_getElem? (i := 610) (by decide +kernel)))
theorem lX11_166 : MV RX11 166 mX2_leastSufficient 0 := mvX2_leastSufficient _ _ (Or.inl (List.mem_of_getElem? (i := 614) (by decide +kernel)))
theorem lX2_31 : MS RX2 31 mJ6_bitCount_0f7a4 1 := msJ6_bitCount_0f7a4 _ _ (Or.inl (List.mem_of_getElem? (i := 618) (by decide +kernel)))
theorem lX2_37 : MV RX2 37 mX2_isSufficient 1 := mvX2_isSufficient _ _ (Or.inl (List.mem_of_getElem? (i := 619) (by decide +kernel)))
theorem lX11_169 : MV RX11 169 mX2_isSufficient 1 := mvX2_isSufficient _ _ (Or.inl (List.mem_of_getElem? (i := 623) (by decide +kernel)))
theorem lL_74 : MV RL 74 mX11_span 1 := mvX11_span _ _ (Or.inl (List.mem_of_getElem? (i := 624) (by decide +kernel)))
theorem lX11_172 : MV RX11 172 mX3_extremePair 1 := mvX3_extremePair _ _ (Or.inl (List.mem_of_getElem? (i := 628) (by decide +kernel)))
theorem lL_78 : MV RL 78 mX11_word 3 := mvX11_word _ _ (Or.inl (List.mem_of_getElem? (i := 632) (by decide +kernel)))
theorem lX11_176 : MV RX11 176 mX9_addWord 3 := mvX9_addWord _ _ (Or.inl (List.mem_of_getElem? (i := 636) (by decide +kernel)))
theorem lX9_64 : MS RX9 64 mX11_isWithin 3 := msX11_isWithin _ _ (Or.inr ⟨"GestureBook", List.mem_of_getElem? (i := 640) (by decide +kernel)⟩)
theorem lX9_68 : MV RX9 68 mX8_append 3 := mvX8_append _ _ (Or.inl (List.mem_of_getElem? (i := 641) (by decide +kernel)))
theorem lX8_37 : MV RX8 37 mX8_put 4 := mvX8_put _ _ (Or.inl (List.mem_of_getElem? (i := 645) (by decide +kernel)))
theorem lX8_25 : MS RX8 25 mX11_isWithin 3 := msX11_isWithin _ _ (Or.inr ⟨"GestureBook", List.mem_of_getElem? (i := 649) (by decide +kernel)⟩)
theorem lL_82 : MV RL 82 mX11_cuts 1 := mvX11_cuts _ _ (Or.inl (List.mem_of_getElem? (i := 650) (by decide +kernel)))
theorem lX11_183 : MV RX11 183 mX8_remove 1 := mvX8_remove _ _ (Or.inl (List.mem_of_getElem? (i := 654) (by decide +kernel)))
theorem lX8_41 : MV RX8 41 mX8_holds 1 := mvX8_holds _ _ (Or.inl (List.mem_of_getElem? (i := 658) (by decide +kernel)))
theorem lX8_45 : MV RX8 45 mX8_moveRows 3 := mvX8_moveRows _ _ (Or.inl (List.mem_of_getElem? (i := 662) (by decide +kernel)))
theorem lL_86 : MV RL 86 mX11_shifts 2 := mvX11_shifts _ _ (Or.inl (List.mem_of_getElem? (i := 666) (by decide +kernel)))
theorem lX11_188 : MV RX11 188 mX8_move 2 := mvX8_move _ _ (Or.inl (List.mem_of_getElem? (i := 670) (by decide +kernel)))
theorem lX8_49 : MV RX8 49 mX8_from 1 := mvX8_from _ _ (Or.inl (List.mem_of_getElem? (i := 674) (by decide +kernel)))
theorem lX8_52 : MV RX8 52 mX8_to 1 := mvX8_to _ _ (Or.inl (List.mem_of_getElem? (i := 678) (by decide +kernel)))
theorem lX8_55 : MS RX8 55 mJ9_abs_0f7a4 1 := msJ9_abs_0f7a4 _ _ (Or.inl (List.mem_of_getElem? (i := 682) (by decide +kernel)))
theorem lL_90 : MV RL 90 mX11_clears 0 := mvX11_clears _ _ (Or.inl (List.mem_of_getElem? (i := 683) (by decide +kernel)))
theorem lX11_191 : MV RX11 191 mX8_removeAll 0 := mvX8_removeAll _ _ (Or.inl (List.mem_of_getElem? (i := 687) (by decide +kernel)))
theorem lL_95 : MV RL 95 mX11_wordOf 2 := mvX11_wordOf _ _ (Or.inl (List.mem_of_getElem? (i := 691) (by decide +kernel)))
theorem lX11_194 : MV RX11 194 mX8_holds 1 := mvX8_holds _ _ (Or.inl (List.mem_of_getElem? (i := 695) (by decide +kernel)))
theorem lX11_195 : MV RX11 195 mX4_interpret 2 := mvX4_interpret _ _ (Or.inl (List.mem_of_getElem? (i := 696) (by decide +kernel)))
theorem lX4_35 : MS RX4 35 mJ7_fill_53178 2 := msJ7_fill_53178 _ _ (Or.inl (List.mem_of_getElem? (i := 700) (by decide +kernel)))
theorem lX4_52 : MS RX4 52 mJ9_min_7cf53 2 := msJ9_min_7cf53 _ _ (Or.inl (List.mem_of_getElem? (i := 701) (by decide +kernel)))
theorem lX4_58 : MV RX4 58 mX9_sortOfWord 1 := mvX9_sortOfWord _ _ (Or.inl (List.mem_of_getElem? (i := 702) (by decide +kernel)))
theorem lX9_50 : MV RX9 50 mX8_signIn 1 := mvX8_signIn _ _ (Or.inl (List.mem_of_getElem? (i := 706) (by decide +kernel)))
theorem lX4_62 : MV RX4 62 mX4_interpretWord 3 := mvX4_interpretWord _ _ (Or.inl (List.mem_of_getElem? (i := 707) (by decide +kernel)))
theorem lX4_66 : MV RX4 66 mX8_from 1 := mvX8_from _ _ (Or.inl (List.mem_of_getElem? (i := 711) (by decide +kernel)))
theorem lX4_69 : MV RX4 69 mX8_to 1 := mvX8_to _ _ (Or.inl (List.mem_of_getElem? (i := 712) (by decide +kernel)))
theorem lX4_72 : MV RX4 72 mX8_signIn 1 := mvX8_signIn _ _ (Or.inl (List.mem_of_getElem? (i := 713) (by decide +kernel)))
theorem lX4_75 : MV RX4 75 mX4_setThing 2 := mvX4_setThing _ _ (Or.inl (List.mem_of_getElem? (i := 714) (by decide +kernel)))
theorem lX4_82 : MS RX4 82 mX11_isSpot 1 := msX11_isSpot _ _ (Or.inr ⟨"GestureBook", List.mem_of_getElem? (i := 718) (by decide +kernel)⟩)
theorem lX4_79 : MV RX4 79 mX4_thingAt 1 := mvX4_thingAt _ _ (Or.inl (List.mem_of_getElem? (i := 721) (by decide +kernel)))
theorem lX11_199 : MV RX11 199 mX11_wordProperty 2 := mvX11_wordProperty _ _ (Or.inl (List.mem_of_getElem? (i := 725) (by decide +kernel)))
theorem lX11_304 : MV RX11 304 mX8_signIn 1 := mvX8_signIn _ _ (Or.inl (List.mem_of_getElem? (i := 729) (by decide +kernel)))
theorem lX11_307 : MV RX11 307 mX8_from 1 := mvX8_from _ _ (Or.inl (List.mem_of_getElem? (i := 730) (by decide +kernel)))
theorem lX11_310 : MV RX11 310 mX8_to 1 := mvX8_to _ _ (Or.inl (List.mem_of_getElem? (i := 731) (by decide +kernel)))
theorem lL_99 : MV RL 99 mX11_at 2 := mvX11_at _ _ (Or.inl (List.mem_of_getElem? (i := 732) (by decide +kernel)))
theorem lX11_202 : MS RX11 202 mX11_isSpot 1 := msX11_isSpot _ _ (Or.inl (List.mem_of_getElem? (i := 736) (by decide +kernel)))
theorem lX11_205 : MV RX11 205 mX4_thingAt 1 := mvX4_thingAt _ _ (Or.inl (List.mem_of_getElem? (i := 737) (by decide +kernel)))
theorem lL_103 : MV RL 103 mX11_all 1 := mvX11_all _ _ (Or.inl (List.mem_of_getElem? (i := 738) (by decide +kernel)))
theorem lX11_208 : MV RX11 208 mX11_examineSentence 0 := mvX11_examineSentence _ _ (Or.inl (List.mem_of_getElem? (i := 742) (by decide +kernel)))
theorem lX11_293 : MV RX11 293 mX10_check 1 := mvX10_check _ _ (Or.inl (List.mem_of_getElem? (i := 746) (by decide +kernel)))
theorem lX10_29 : MV RX10 29 mX9_sortOfWord 1 := mvX9_sortOfWord _ _ (Or.inl (List.mem_of_getElem? (i := 750) (by decide +kernel)))
theorem lX10_33 : MS RX10 33 mJ9_min_7cf53 2 := msJ9_min_7cf53 _ _ (Or.inl (List.mem_of_getElem? (i := 751) (by decide +kernel)))
theorem lX11_296 : MV RX11 296 mX6_follow 1 := mvX6_follow _ _ (Or.inl (List.mem_of_getElem? (i := 752) (by decide +kernel)))
theorem lX6_22 : MV RX6 22 mX8_from 1 := mvX8_from _ _ (Or.inl (List.mem_of_getElem? (i := 756) (by decide +kernel)))
theorem lX6_26 : MV RX6 26 mX6_add 1 := mvX6_add _ _ (Or.inl (List.mem_of_getElem? (i := 757) (by decide +kernel)))
theorem lX6_33 : MS RX6 33 mX11_isSpot 1 := msX11_isSpot _ _ (Or.inr ⟨"GestureBook", List.mem_of_getElem? (i := 761) (by decide +kernel)⟩)
theorem lX6_30 : MV RX6 30 mX8_to 1 := mvX8_to _ _ (Or.inl (List.mem_of_getElem? (i := 762) (by decide +kernel)))
theorem lX11_211 : MV RX11 211 mX11_sentenceProperty 1 := mvX11_sentenceProperty _ _ (Or.inl (List.mem_of_getElem? (i := 763) (by decide +kernel)))
theorem lX11_230 : MV RX11 230 mX6_lengthWith 1 := mvX6_lengthWith _ _ (Or.inl (List.mem_of_getElem? (i := 767) (by decide +kernel)))
theorem lX6_37 : MS RX6 37 mJ9_abs_0f7a4 1 := msJ9_abs_0f7a4 _ _ (Or.inl (List.mem_of_getElem? (i := 771) (by decide +kernel)))
theorem lX11_341 : MV RX11 341 mX6_setOfSpots 0 := mvX6_setOfSpots _ _ (Or.inl (List.mem_of_getElem? (i := 772) (by decide +kernel)))
theorem lL_107 : MV RL 107 mX11_lays 2 := mvX11_lays _ _ (Or.inl (List.mem_of_getElem? (i := 776) (by decide +kernel)))
theorem lX11_214 : MV RX11 214 mX9_layOne 2 := mvX9_layOne _ _ (Or.inl (List.mem_of_getElem? (i := 780) (by decide +kernel)))
theorem lX9_72 : MS RX9 72 mX11_isSpot 1 := msX11_isSpot _ _ (Or.inr ⟨"GestureBook", List.mem_of_getElem? (i := 784) (by decide +kernel)⟩)
theorem lL_111 : MV RL 111 mX11_lay 1 := mvX11_lay _ _ (Or.inl (List.mem_of_getElem? (i := 785) (by decide +kernel)))
theorem lL_115 : MV RL 115 mX11_best 1 := mvX11_best _ _ (Or.inl (List.mem_of_getElem? (i := 789) (by decide +kernel)))
theorem lX11_220 : MV RX11 220 mX11_findBestArrangement 0 := mvX11_findBestArrangement _ _ (Or.inl (List.mem_of_getElem? (i := 793) (by decide +kernel)))
theorem lX11_300 : MV RX11 300 mX0_arrange 1 := mvX0_arrange _ _ (Or.inl (List.mem_of_getElem? (i := 797) (by decide +kernel)))
theorem lX0_25 : MS RX0 25 mJ7_fill_53178 2 := msJ7_fill_53178 _ _ (Or.inl (List.mem_of_getElem? (i := 801) (by decide +kernel)))
theorem lX0_39 : MS RX0 39 mJ9_max_7cf53 2 := msJ9_max_7cf53 _ _ (Or.inl (List.mem_of_getElem? (i := 802) (by decide +kernel)))
theorem lX0_45 : MS RX0 45 mJ9_min_7cf53 2 := msJ9_min_7cf53 _ _ (Or.inl (List.mem_of_getElem? (i := 803) (by decide +kernel)))
theorem kX0_50 : Cond.constant RX0 50 (J (2147483647)) ∈ lw_tbl := List.mem_of_getElem? (i := 804) (by decide +kernel)
theorem lX0_51 : MS RX0 51 mX0_placeFrom 4 := msX0_placeFrom _ _ (Or.inl (List.mem_of_getElem? (i := 805) (by decide +kernel)))
theorem acX0_55 : Cond.methodLink RX0 55 arraycopyName ∈ lw_tbl := List.mem_of_getElem? (i := 808) (by decide +kernel)
theorem lX0_61 : MV RX0 61 mX0_lengthTo 1 := mvX0_lengthTo _ _ (Or.inl (List.mem_of_getElem? (i := 809) (by decide +kernel)))
theorem lX0_65 : MS RX0 65 mJ9_abs_0f7a4 1 := msJ9_abs_0f7a4 _ _ (Or.inl (List.mem_of_getElem? (i := 813) (by decide +kernel)))
theorem lL_119 : MV RL 119 mX11_settles 0 := mvX11_settles _ _ (Or.inl (List.mem_of_getElem? (i := 814) (by decide +kernel)))
theorem acX11_234 : Cond.methodLink RX11 234 arraycopyName ∈ lw_tbl := List.mem_of_getElem? (i := 818) (by decide +kernel)
theorem lL_123 : MV RL 123 mX11_type 1 := mvX11_type _ _ (Or.inl (List.mem_of_getElem? (i := 819) (by decide +kernel)))
theorem lX11_240 : MV RX11 240 mX7_append 1 := mvX7_append _ _ (Or.inl (List.mem_of_getElem? (i := 823) (by decide +kernel)))
theorem lX7_34 : MS RX7 34 mX11_isWithin 3 := msX11_isWithin _ _ (Or.inr ⟨"GestureBook", List.mem_of_getElem? (i := 827) (by decide +kernel)⟩)
theorem lL_127 : MV RL 127 mX11_clear 0 := mvX11_clear _ _ (Or.inl (List.mem_of_getElem? (i := 828) (by decide +kernel)))
theorem lX11_243 : MV RX11 243 mX7_empty 0 := mvX7_empty _ _ (Or.inl (List.mem_of_getElem? (i := 832) (by decide +kernel)))
theorem lL_131 : MV RL 131 mX11_reads 0 := mvX11_reads _ _ (Or.inl (List.mem_of_getElem? (i := 836) (by decide +kernel)))
theorem lX11_246 : MV RX11 246 mX7_parse 0 := mvX7_parse _ _ (Or.inl (List.mem_of_getElem? (i := 840) (by decide +kernel)))
theorem lX7_42 : MV RX7 42 mX7_skipBlanks 0 := mvX7_skipBlanks _ _ (Or.inl (List.mem_of_getElem? (i := 844) (by decide +kernel)))
theorem lX7_45 : MV RX7 45 mX7_parseOrder 1 := mvX7_parseOrder _ _ (Or.inl (List.mem_of_getElem? (i := 848) (by decide +kernel)))
theorem lX7_49 : MV RX7 49 mX7_current 0 := mvX7_current _ _ (Or.inl (List.mem_of_getElem? (i := 852) (by decide +kernel)))
theorem lX7_53 : MS RX7 53 mX7_mostNumbers 1 := msX7_mostNumbers _ _ (Or.inl (List.mem_of_getElem? (i := 856) (by decide +kernel)))
theorem lX7_56 : MV RX7 56 mX7_isAtDigit 0 := mvX7_isAtDigit _ _ (Or.inl (List.mem_of_getElem? (i := 859) (by decide +kernel)))
theorem lX7_60 : MV RX7 60 mX7_parseNumber 2 := mvX7_parseNumber _ _ (Or.inl (List.mem_of_getElem? (i := 863) (by decide +kernel)))
theorem lX11_252 : MV RX11 252 mX11_execute 1 := mvX11_execute _ _ (Or.inl (List.mem_of_getElem? (i := 867) (by decide +kernel)))
theorem lX11_281 : MV RX11 281 mX7_number 2 := mvX7_number _ _ (Or.inl (List.mem_of_getElem? (i := 871) (by decide +kernel)))
theorem lX7_38 : MV RX7 38 mX7_numbers 1 := mvX7_numbers _ _ (Or.inl (List.mem_of_getElem? (i := 875) (by decide +kernel)))
theorem lX11_283 : MV RX11 283 mX7_letter 1 := mvX7_letter _ _ (Or.inl (List.mem_of_getElem? (i := 879) (by decide +kernel)))
theorem lX11_286 : MV RX11 286 mX7_numbers 1 := mvX7_numbers _ _ (Or.inl (List.mem_of_getElem? (i := 883) (by decide +kernel)))
theorem lX11_289 : MV RX11 289 mX9_layAll 2 := mvX9_layAll _ _ (Or.inl (List.mem_of_getElem? (i := 884) (by decide +kernel)))
theorem lX9_75 : MV RX9 75 mX7_number 2 := mvX7_number _ _ (Or.inl (List.mem_of_getElem? (i := 888) (by decide +kernel)))
theorem lX11_255 : MV RX11 255 mX5_unstage 1 := mvX5_unstage _ _ (Or.inl (List.mem_of_getElem? (i := 889) (by decide +kernel)))
theorem lL_135 : MV RL 135 mX11_back 0 := mvX11_back _ _ (Or.inl (List.mem_of_getElem? (i := 893) (by decide +kernel)))
theorem lX11_258 : MV RX11 258 mX5_restore 1 := mvX5_restore _ _ (Or.inl (List.mem_of_getElem? (i := 897) (by decide +kernel)))
theorem lL_139 : MV RL 139 mX11_told 1 := mvX11_told _ _ (Or.inl (List.mem_of_getElem? (i := 901) (by decide +kernel)))
theorem lX11_262 : MV RX11 262 mX11_figure 1 := mvX11_figure _ _ (Or.inl (List.mem_of_getElem? (i := 905) (by decide +kernel)))
theorem lX11_349 : MV RX11 349 mX3_weightOf 1 := mvX3_weightOf _ _ (Or.inl (List.mem_of_getElem? (i := 909) (by decide +kernel)))
theorem lL_143 : MV RL 143 mX11_digest 0 := mvX11_digest _ _ (Or.inl (List.mem_of_getElem? (i := 913) (by decide +kernel)))
theorem kX11_265 : Cond.constantLong RX11 265 (JL (2287)) ∈ lw_tbl := List.mem_of_getElem? (i := 917) (by decide +kernel)
theorem lX11_267 : MS RX11 267 mX11_mixed 2 := msX11_mixed _ _ (Or.inl (List.mem_of_getElem? (i := 918) (by decide +kernel)))
theorem kX11_352 : Cond.constantLong RX11 352 (JL (31)) ∈ lw_tbl := List.mem_of_getElem? (i := 921) (by decide +kernel)
theorem lX11_271 : MV RX11 271 mX11_withSigns 1 := mvX11_withSigns _ _ (Or.inl (List.mem_of_getElem? (i := 922) (by decide +kernel)))
theorem lX11_275 : MV RX11 275 mX11_withWords 1 := mvX11_withWords _ _ (Or.inl (List.mem_of_getElem? (i := 926) (by decide +kernel)))
theorem lL_12 : MI RL 12 mX12_init 0 := miX12_init _ _ (Or.inl (List.mem_of_getElem? (i := 932) (by decide +kernel)))
theorem flX12_7 : FL RX12 7 12 0 true (.array .int) := ⟨RX12, TX12, 13, tyX12, cd12, by decide, rfl, rfl, Or.inl (List.mem_of_getElem? (i := 936) (by decide +kernel))⟩
theorem flX12_34 : FL RX12 34 12 1 false (.int) := ⟨RX12, TX12, 13, tyX12, cd12, by decide, rfl, rfl, Or.inl (List.mem_of_getElem? (i := 937) (by decide +kernel))⟩
theorem flX12_13 : FL RX12 13 12 2 true (.array .int) := ⟨RX12, TX12, 13, tyX12, cd12, by decide, rfl, rfl, Or.inl (List.mem_of_getElem? (i := 938) (by decide +kernel))⟩
theorem flX12_16 : FL RX12 16 12 3 true (.array .int) := ⟨RX12, TX12, 13, tyX12, cd12, by decide, rfl, rfl, Or.inl (List.mem_of_getElem? (i := 939) (by decide +kernel))⟩
theorem flX12_251 : FL RX12 251 12 4 false (.int) := ⟨RX12, TX12, 13, tyX12, cd12, by decide, rfl, rfl, Or.inl (List.mem_of_getElem? (i := 940) (by decide +kernel))⟩
theorem flX12_99 : FL RX12 99 12 5 false (.long) := ⟨RX12, TX12, 13, tyX12, cd12, by decide, rfl, rfl, Or.inl (List.mem_of_getElem? (i := 941) (by decide +kernel))⟩
theorem flX12_19 : FL RX12 19 12 6 true (.array .int) := ⟨RX12, TX12, 13, tyX12, cd12, by decide, rfl, rfl, Or.inl (List.mem_of_getElem? (i := 942) (by decide +kernel))⟩
theorem flX12_22 : FL RX12 22 12 7 true (.array .int) := ⟨RX12, TX12, 13, tyX12, cd12, by decide, rfl, rfl, Or.inl (List.mem_of_getElem? (i := 943) (by decide +kernel))⟩
theorem flX12_254 : FL RX12 254 12 8 false (.int) := ⟨RX12, TX12, 13, tyX12, cd12, by decide, rfl, rfl, Or.inl (List.mem_of_getElem? (i := 944) (by decide +kernel))⟩
theorem flX12_274 : FL RX12 274 12 9 false (.int) := ⟨RX12, TX12, 13, tyX12, cd12, by decide, rfl, rfl, Or.inl (List.mem_of_getElem? (i := 945) (by decide +kernel))⟩
theorem flX12_25 : FL RX12 25 12 10 true (.array .int) := ⟨RX12, TX12, 13, tyX12, cd12, by decide, rfl, rfl, Or.inl (List.mem_of_getElem? (i := 946) (by decide +kernel))⟩
theorem flX12_28 : FL RX12 28 12 11 true (.array .int) := ⟨RX12, TX12, 13, tyX12, cd12, by decide, rfl, rfl, Or.inl (List.mem_of_getElem? (i := 947) (by decide +kernel))⟩
theorem flX12_31 : FL RX12 31 12 12 true (.array .int) := ⟨RX12, TX12, 13, tyX12, cd12, by decide, rfl, rfl, Or.inl (List.mem_of_getElem? (i := 948) (by decide +kernel))⟩
theorem lL_17 : MV RL 17 mX12_sign 5 := mvX12_sign _ _ (Or.inl (List.mem_of_getElem? (i := 976) (by decide +kernel)))
theorem lX12_66 : MV RX12 66 mX12_canSign 5 := mvX12_canSign _ _ (Or.inl (List.mem_of_getElem? (i := 980) (by decide +kernel)))
theorem lX12_56 : MS RX12 56 mX12_areParts 4 := msX12_areParts _ _ (Or.inl (List.mem_of_getElem? (i := 984) (by decide +kernel)))
theorem lX12_48 : MS RX12 48 mX12_isPart 1 := msX12_isPart _ _ (Or.inl (List.mem_of_getElem? (i := 987) (by decide +kernel)))
theorem kX12_46 : Cond.constantLong RX12 46 (JL (7)) ∈ lw_tbl := List.mem_of_getElem? (i := 990) (by decide +kernel)
theorem lX12_42 : MS RX12 42 mX12_in 3 := msX12_in _ _ (Or.inl (List.mem_of_getElem? (i := 991) (by decide +kernel)))
theorem kX12_60 : Cond.constantLong RX12 60 (JL (3)) ∈ lw_tbl := List.mem_of_getElem? (i := 994) (by decide +kernel)
theorem lX12_62 : MV RX12 62 mX12_signOf 5 := mvX12_signOf _ _ (Or.inl (List.mem_of_getElem? (i := 995) (by decide +kernel)))
theorem lX12_52 : MV RX12 52 mX12_part 2 := mvX12_part _ _ (Or.inl (List.mem_of_getElem? (i := 999) (by decide +kernel)))
theorem lX12_69 : MV RX12 69 mX12_refuses 1 := mvX12_refuses _ _ (Or.inl (List.mem_of_getElem? (i := 1003) (by decide +kernel)))
theorem lX12_73 : MV RX12 73 mX12_minds 0 := mvX12_minds _ _ (Or.inl (List.mem_of_getElem? (i := 1007) (by decide +kernel)))
theorem lX12_38 : MV RX12 38 mX12_copy 2 := mvX12_copy _ _ (Or.inl (List.mem_of_getElem? (i := 1011) (by decide +kernel)))
theorem lX12_76 : MV RX12 76 mX12_adds 5 := mvX12_adds _ _ (Or.inl (List.mem_of_getElem? (i := 1015) (by decide +kernel)))
theorem lL_22 : MV RL 22 mX12_becomes 3 := mvX12_becomes _ _ (Or.inl (List.mem_of_getElem? (i := 1019) (by decide +kernel)))
theorem lX12_79 : MV RX12 79 mX12_isSign 1 := mvX12_isSign _ _ (Or.inl (List.mem_of_getElem? (i := 1023) (by decide +kernel)))
theorem kX12_82 : Cond.constantLong RX12 82 (JL (4)) ∈ lw_tbl := List.mem_of_getElem? (i := 1027) (by decide +kernel)
theorem lL_27 : MV RL 27 mX12_drops 1 := mvX12_drops _ _ (Or.inl (List.mem_of_getElem? (i := 1028) (by decide +kernel)))
theorem lX12_87 : MV RX12 87 mX12_canDrop 1 := mvX12_canDrop _ _ (Or.inl (List.mem_of_getElem? (i := 1032) (by decide +kernel)))
theorem lX12_84 : MV RX12 84 mX12_wordsWith 1 := mvX12_wordsWith _ _ (Or.inl (List.mem_of_getElem? (i := 1036) (by decide +kernel)))
theorem lX12_90 : MV RX12 90 mX12_goes 1 := mvX12_goes _ _ (Or.inl (List.mem_of_getElem? (i := 1040) (by decide +kernel)))
theorem lL_32 : MV RL 32 mX12_weight 2 := mvX12_weight _ _ (Or.inl (List.mem_of_getElem? (i := 1044) (by decide +kernel)))
theorem lX12_95 : MS RX12 95 mX12_isWeight 2 := msX12_isWeight _ _ (Or.inl (List.mem_of_getElem? (i := 1048) (by decide +kernel)))
theorem kX12_93 : Cond.constantLong RX12 93 (JL (5)) ∈ lw_tbl := List.mem_of_getElem? (i := 1051) (by decide +kernel)
theorem lL_36 : MV RL 36 mX12_draws 2 := mvX12_draws _ _ (Or.inl (List.mem_of_getElem? (i := 1052) (by decide +kernel)))
theorem kX12_113 : Cond.constantLong RX12 113 (JL (999999)) ∈ lw_tbl := List.mem_of_getElem? (i := 1056) (by decide +kernel)
theorem kX12_115 : Cond.constantLong RX12 115 (JL (16)) ∈ lw_tbl := List.mem_of_getElem? (i := 1057) (by decide +kernel)
theorem lX12_117 : MV RX12 117 mX12_next 0 := mvX12_next _ _ (Or.inl (List.mem_of_getElem? (i := 1058) (by decide +kernel)))
theorem kX12_103 : Cond.constantLong RX12 103 (JL (1103515245)) ∈ lw_tbl := List.mem_of_getElem? (i := 1062) (by decide +kernel)
theorem kX12_105 : Cond.constantLong RX12 105 (JL (12345)) ∈ lw_tbl := List.mem_of_getElem? (i := 1063) (by decide +kernel)
theorem kX12_107 : Cond.constantLong RX12 107 (JL (2147483648)) ∈ lw_tbl := List.mem_of_getElem? (i := 1064) (by decide +kernel)
theorem kX12_109 : Cond.constantLong RX12 109 (JL (65536)) ∈ lw_tbl := List.mem_of_getElem? (i := 1065) (by decide +kernel)
theorem kX12_111 : Cond.constantLong RX12 111 (JL (8)) ∈ lw_tbl := List.mem_of_getElem? (i := 1066) (by decide +kernel)
theorem lL_40 : MV RL 40 mX12_of 2 := mvX12_of _ _ (Or.inl (List.mem_of_getElem? (i := 1067) (by decide +kernel)))
theorem lL_44 : MV RL 44 mX12_apart 3 := mvX12_apart _ _ (Or.inl (List.mem_of_getElem? (i := 1071) (by decide +kernel)))
theorem lX12_134 : MV RX12 134 mX12_between 2 := mvX12_between _ _ (Or.inl (List.mem_of_getElem? (i := 1075) (by decide +kernel)))
theorem lX12_131 : MV RX12 131 mX12_apartOf 5 := mvX12_apartOf _ _ (Or.inl (List.mem_of_getElem? (i := 1079) (by decide +kernel)))
theorem lX12_127 : MS RX12 127 mX12_apartBy 3 := msX12_apartBy _ _ (Or.inl (List.mem_of_getElem? (i := 1083) (by decide +kernel)))
theorem lX12_121 : MS RX12 121 mX12_ones 1 := msX12_ones _ _ (Or.inl (List.mem_of_getElem? (i := 1086) (by decide +kernel)))
theorem lX12_124 : MS RX12 124 mX12_off 2 := msX12_off _ _ (Or.inl (List.mem_of_getElem? (i := 1089) (by decide +kernel)))
theorem lL_49 : MV RL 49 mX12_look 4 := mvX12_look _ _ (Or.inl (List.mem_of_getElem? (i := 1092) (by decide +kernel)))
theorem lX12_139 : MS RX12 139 mX12_isAsked 1 := msX12_isAsked _ _ (Or.inl (List.mem_of_getElem? (i := 1096) (by decide +kernel)))
theorem kX12_137 : Cond.constantLong RX12 137 (JL (-1)) ∈ lw_tbl := List.mem_of_getElem? (i := 1099) (by decide +kernel)
theorem lX12_142 : MV RX12 142 mX12_isSo 3 := mvX12_isSo _ _ (Or.inl (List.mem_of_getElem? (i := 1100) (by decide +kernel)))
theorem lL_53 : MV RL 53 mX12_near 2 := mvX12_near _ _ (Or.inl (List.mem_of_getElem? (i := 1104) (by decide +kernel)))
theorem kX12_146 : Cond.constantLong RX12 146 (JL (99)) ∈ lw_tbl := List.mem_of_getElem? (i := 1108) (by decide +kernel)
theorem lX12_148 : MV RX12 148 mX12_nearOf 2 := mvX12_nearOf _ _ (Or.inl (List.mem_of_getElem? (i := 1109) (by decide +kernel)))
theorem lL_57 : MV RL 57 mX12_nearest 4 := mvX12_nearest _ _ (Or.inl (List.mem_of_getElem? (i := 1113) (by decide +kernel)))
theorem lL_61 : MV RL 61 mX12_sorts 1 := mvX12_sorts _ _ (Or.inl (List.mem_of_getElem? (i := 1117) (by decide +kernel)))
theorem lL_65 : MV RL 65 mX12_groups 2 := mvX12_groups _ _ (Or.inl (List.mem_of_getElem? (i := 1121) (by decide +kernel)))
theorem lX12_151 : MS RX12 151 mX12_has 2 := msX12_has _ _ (Or.inl (List.mem_of_getElem? (i := 1125) (by decide +kernel)))
theorem lX12_154 : MV RX12 154 mX12_group 2 := mvX12_group _ _ (Or.inl (List.mem_of_getElem? (i := 1128) (by decide +kernel)))
theorem lL_69 : MV RL 69 mX12_twins 1 := mvX12_twins _ _ (Or.inl (List.mem_of_getElem? (i := 1132) (by decide +kernel)))
theorem lX12_160 : MV RX12 160 mX12_twinsBy 1 := mvX12_twinsBy _ _ (Or.inl (List.mem_of_getElem? (i := 1136) (by decide +kernel)))
theorem lX12_157 : MV RX12 157 mX12_unlike 2 := mvX12_unlike _ _ (Or.inl (List.mem_of_getElem? (i := 1140) (by decide +kernel)))
theorem lL_73 : MV RL 73 mX12_enough 1 := mvX12_enough _ _ (Or.inl (List.mem_of_getElem? (i := 1144) (by decide +kernel)))
theorem kX12_166 : Cond.constantLong RX12 166 (JL (15)) ∈ lw_tbl := List.mem_of_getElem? (i := 1148) (by decide +kernel)
theorem lX12_168 : MV RX12 168 mX12_leastEnough 0 := mvX12_leastEnough _ _ (Or.inl (List.mem_of_getElem? (i := 1149) (by decide +kernel)))
theorem lX12_163 : MV RX12 163 mX12_isEnough 1 := mvX12_isEnough _ _ (Or.inl (List.mem_of_getElem? (i := 1153) (by decide +kernel)))
theorem lL_77 : MV RL 77 mX12_span 1 := mvX12_span _ _ (Or.inl (List.mem_of_getElem? (i := 1157) (by decide +kernel)))
theorem lL_81 : MV RL 81 mX12_word 3 := mvX12_word _ _ (Or.inl (List.mem_of_getElem? (i := 1161) (by decide +kernel)))
theorem lX12_174 : MV RX12 174 mX12_canSay 3 := mvX12_canSay _ _ (Or.inl (List.mem_of_getElem? (i := 1165) (by decide +kernel)))
theorem lX12_177 : MV RX12 177 mX12_says 3 := mvX12_says _ _ (Or.inl (List.mem_of_getElem? (i := 1169) (by decide +kernel)))
theorem lL_85 : MV RL 85 mX12_cuts 1 := mvX12_cuts _ _ (Or.inl (List.mem_of_getElem? (i := 1173) (by decide +kernel)))
theorem lX12_180 : MV RX12 180 mX12_isWord 1 := mvX12_isWord _ _ (Or.inl (List.mem_of_getElem? (i := 1177) (by decide +kernel)))
theorem lL_89 : MV RL 89 mX12_shifts 2 := mvX12_shifts _ _ (Or.inl (List.mem_of_getElem? (i := 1181) (by decide +kernel)))
theorem lX12_183 : MV RX12 183 mX12_swaps 2 := mvX12_swaps _ _ (Or.inl (List.mem_of_getElem? (i := 1185) (by decide +kernel)))
theorem lX12_171 : MV RX12 171 mX12_said 2 := mvX12_said _ _ (Or.inl (List.mem_of_getElem? (i := 1189) (by decide +kernel)))
theorem lL_94 : MV RL 94 mX12_clears 0 := mvX12_clears _ _ (Or.inl (List.mem_of_getElem? (i := 1193) (by decide +kernel)))
theorem lX12_186 : MV RX12 186 mX12_clearsAll 0 := mvX12_clearsAll _ _ (Or.inl (List.mem_of_getElem? (i := 1197) (by decide +kernel)))
theorem lL_98 : MV RL 98 mX12_wordOf 2 := mvX12_wordOf _ _ (Or.inl (List.mem_of_getElem? (i := 1201) (by decide +kernel)))
theorem kX12_204 : Cond.constantLong RX12 204 (JL (6)) ∈ lw_tbl := List.mem_of_getElem? (i := 1205) (by decide +kernel)
theorem lX12_206 : MV RX12 206 mX12_wordIs 2 := mvX12_wordIs _ _ (Or.inl (List.mem_of_getElem? (i := 1206) (by decide +kernel)))
theorem lX12_189 : MV RX12 189 mX12_sortOf 1 := mvX12_sortOf _ _ (Or.inl (List.mem_of_getElem? (i := 1210) (by decide +kernel)))
theorem lX12_198 : MV RX12 198 mX12_clauseOf 1 := mvX12_clauseOf _ _ (Or.inl (List.mem_of_getElem? (i := 1214) (by decide +kernel)))
theorem lX12_201 : MV RX12 201 mX12_isVain 1 := mvX12_isVain _ _ (Or.inl (List.mem_of_getElem? (i := 1218) (by decide +kernel)))
theorem lX12_195 : MV RX12 195 mX12_meant 2 := mvX12_meant _ _ (Or.inl (List.mem_of_getElem? (i := 1222) (by decide +kernel)))
theorem lX12_192 : MV RX12 192 mX12_atSpot 2 := mvX12_atSpot _ _ (Or.inl (List.mem_of_getElem? (i := 1226) (by decide +kernel)))
theorem lL_102 : MV RL 102 mX12_at 2 := mvX12_at _ _ (Or.inl (List.mem_of_getElem? (i := 1230) (by decide +kernel)))
theorem lX12_209 : MS RX12 209 mX12_isSpot 1 := msX12_isSpot _ _ (Or.inl (List.mem_of_getElem? (i := 1234) (by decide +kernel)))
theorem lL_106 : MV RL 106 mX12_all 1 := mvX12_all _ _ (Or.inl (List.mem_of_getElem? (i := 1237) (by decide +kernel)))
theorem lX12_215 : MV RX12 215 mX12_clauses 0 := mvX12_clauses _ _ (Or.inl (List.mem_of_getElem? (i := 1241) (by decide +kernel)))
theorem lX12_224 : MV RX12 224 mX12_vain 0 := mvX12_vain _ _ (Or.inl (List.mem_of_getElem? (i := 1245) (by decide +kernel)))
theorem lX12_227 : MV RX12 227 mX12_swapsOfAll 0 := mvX12_swapsOfAll _ _ (Or.inl (List.mem_of_getElem? (i := 1249) (by decide +kernel)))
theorem lX12_212 : MV RX12 212 mX12_rank 1 := mvX12_rank _ _ (Or.inl (List.mem_of_getElem? (i := 1253) (by decide +kernel)))
theorem lX12_230 : MV RX12 230 mX12_moved 0 := mvX12_moved _ _ (Or.inl (List.mem_of_getElem? (i := 1257) (by decide +kernel)))
theorem lX12_218 : MV RX12 218 mX12_ordered 1 := mvX12_ordered _ _ (Or.inl (List.mem_of_getElem? (i := 1261) (by decide +kernel)))
theorem lX12_233 : MV RX12 233 mX12_wayNow 0 := mvX12_wayNow _ _ (Or.inl (List.mem_of_getElem? (i := 1265) (by decide +kernel)))
theorem lX12_221 : MV RX12 221 mX12_way 0 := mvX12_way _ _ (Or.inl (List.mem_of_getElem? (i := 1269) (by decide +kernel)))
theorem lX12_236 : MV RX12 236 mX12_spots 0 := mvX12_spots _ _ (Or.inl (List.mem_of_getElem? (i := 1273) (by decide +kernel)))
theorem lL_110 : MV RL 110 mX12_lays 2 := mvX12_lays _ _ (Or.inl (List.mem_of_getElem? (i := 1277) (by decide +kernel)))
theorem lX12_239 : MV RX12 239 mX12_spotAt 1 := mvX12_spotAt _ _ (Or.inl (List.mem_of_getElem? (i := 1281) (by decide +kernel)))
theorem lL_114 : MV RL 114 mX12_lay 1 := mvX12_lay _ _ (Or.inl (List.mem_of_getElem? (i := 1285) (by decide +kernel)))
theorem lL_118 : MV RL 118 mX12_best 1 := mvX12_best _ _ (Or.inl (List.mem_of_getElem? (i := 1289) (by decide +kernel)))
theorem lX12_246 : MV RX12 246 mX12_bestWay 0 := mvX12_bestWay _ _ (Or.inl (List.mem_of_getElem? (i := 1293) (by decide +kernel)))
theorem lX12_242 : MV RX12 242 mX12_tries 1 := mvX12_tries _ _ (Or.inl (List.mem_of_getElem? (i := 1297) (by decide +kernel)))
theorem lL_122 : MV RL 122 mX12_settles 0 := mvX12_settles _ _ (Or.inl (List.mem_of_getElem? (i := 1301) (by decide +kernel)))
theorem lL_126 : MV RL 126 mX12_type 1 := mvX12_type _ _ (Or.inl (List.mem_of_getElem? (i := 1305) (by decide +kernel)))
theorem kX12_249 : Cond.constantLong RX12 249 (JL (127)) ∈ lw_tbl := List.mem_of_getElem? (i := 1309) (by decide +kernel)
theorem lL_130 : MV RL 130 mX12_clear 0 := mvX12_clear _ _ (Or.inl (List.mem_of_getElem? (i := 1310) (by decide +kernel)))
theorem lL_134 : MV RL 134 mX12_reads 0 := mvX12_reads _ _ (Or.inl (List.mem_of_getElem? (i := 1314) (by decide +kernel)))
theorem lX12_283 : MV RX12 283 mX12_readsAll 0 := mvX12_readsAll _ _ (Or.inl (List.mem_of_getElem? (i := 1318) (by decide +kernel)))
theorem lX12_267 : MV RX12 267 mX12_blanks 0 := mvX12_blanks _ _ (Or.inl (List.mem_of_getElem? (i := 1322) (by decide +kernel)))
theorem lX12_257 : MV RX12 257 mX12_byteHere 0 := mvX12_byteHere _ _ (Or.inl (List.mem_of_getElem? (i := 1326) (by decide +kernel)))
theorem lX12_277 : MV RX12 277 mX12_readsOrder 0 := mvX12_readsOrder _ _ (Or.inl (List.mem_of_getElem? (i := 1330) (by decide +kernel)))
theorem lX12_264 : MS RX12 264 mX12_least 1 := msX12_least _ _ (Or.inl (List.mem_of_getElem? (i := 1334) (by decide +kernel)))
theorem lX12_270 : MV RX12 270 mX12_isFigure 0 := mvX12_isFigure _ _ (Or.inl (List.mem_of_getElem? (i := 1337) (by decide +kernel)))
theorem kX12_260 : Cond.constantLong RX12 260 (JL (48)) ∈ lw_tbl := List.mem_of_getElem? (i := 1341) (by decide +kernel)
theorem kX12_262 : Cond.constantLong RX12 262 (JL (57)) ∈ lw_tbl := List.mem_of_getElem? (i := 1342) (by decide +kernel)
theorem lX12_286 : MV RX12 286 mX12_does 1 := mvX12_does _ _ (Or.inl (List.mem_of_getElem? (i := 1343) (by decide +kernel)))
theorem lX12_280 : MV RX12 280 mX12_laysAll 1 := mvX12_laysAll _ _ (Or.inl (List.mem_of_getElem? (i := 1347) (by decide +kernel)))
theorem lL_138 : MV RL 138 mX12_back 0 := mvX12_back _ _ (Or.inl (List.mem_of_getElem? (i := 1351) (by decide +kernel)))
theorem lL_142 : MV RL 142 mX12_told 1 := mvX12_told _ _ (Or.inl (List.mem_of_getElem? (i := 1355) (by decide +kernel)))
theorem kX12_289 : Cond.constantLong RX12 289 (JL (10)) ∈ lw_tbl := List.mem_of_getElem? (i := 1359) (by decide +kernel)
theorem lX12_291 : MV RX12 291 mX12_tells 1 := mvX12_tells _ _ (Or.inl (List.mem_of_getElem? (i := 1360) (by decide +kernel)))
theorem lL_147 : MV RL 147 mX12_digest 0 := mvX12_digest _ _ (Or.inl (List.mem_of_getElem? (i := 1364) (by decide +kernel)))
theorem kX12_294 : Cond.constantLong RX12 294 (JL (2287)) ∈ lw_tbl := List.mem_of_getElem? (i := 1368) (by decide +kernel)
theorem kX12_296 : Cond.constantLong RX12 296 (JL (31)) ∈ lw_tbl := List.mem_of_getElem? (i := 1369) (by decide +kernel)
theorem lX12_298 : MV RX12 298 mX12_all 1 := mvX12_all _ _ (Or.inl (List.mem_of_getElem? (i := 1370) (by decide +kernel)))
theorem ac_n : Cond.native arraycopyName ∈ lw_tbl := List.mem_of_getElem? (i := 372) (by decide +kernel)
theorem ac_s : Cond.static arraycopyName ∈ lw_tbl := List.mem_of_getElem? (i := 371) (by decide +kernel)
theorem ac_i : Cond.initialized "java/lang/System" ∈ lw_tbl := List.mem_of_getElem? (i := 94) (by decide +kernel)
end
section
/-! ===== loops that count upwards ===== -/
def it {α : Type} (f : Int → α → α) : Int → Nat → α → α
  | _, 0, x => x
  | j, k + 1, x => it f (j + 1) k (f j x)
theorem up_ind {α : Type} {P : Int → α → Prop} (f : Int → α → α) (I : Int → α → Prop) (N : Int) (hI : ∀ j x, j < N → I j x → I (j + 1) (f j x)) (hs : ∀ j x, j < N → I j x → P (j + 1) (f j x) → P j x) : ∀ (k : Nat) (j : Int) (x : α), j + k = N → I j x → P N (it f j k x) → P j x
  | 0, j, x, h, _, hp => by
    have : j = N := by omega
    subst this
    exact hp
  | k + 1, j, x, h, hi, hp => by
    have hj : j < N := by omega
    exact hs j x hj hi (up_ind f I N hI hs k (j + 1) (f j x) (by omega) (hI j x hj hi) hp)
/-- without an invariant of what is gathered -/
theorem up_ind0 {α : Type} {P : Int → α → Prop} (f : Int → α → α) (N j0 : Int) (x0 : α) (hj : j0 ≤ N) (hs : ∀ j x, j0 ≤ j → j < N → P (j + 1) (f j x) → P j x) (hp : P N (it f j0 (N - j0).toNat x0)) : P j0 x0 :=
  up_ind (P := P) f (fun j _ => j0 ≤ j) N (fun j x h h2 => by omega) (fun j x h h2 => hs j x h2 h) (N - j0).toNat j0 x0 (by omega) (Int.le_refl _) hp
theorem up_ind1 {α : Type} {P : Int → α → Prop} (f : Int → α → α) (I : Int → α → Prop) (N j0 : Int) (x0 : α) (hj : j0 ≤ N) (h0 : I j0 x0) (hI : ∀ j x, j0 ≤ j → j < N → I j x → I (j + 1) (f j x)) (hs : ∀ j x, j0 ≤ j → j < N → I j x → P (j + 1) (f j x) → P j x) (hp : I N (it f j0 (N - j0).toNat x0) → P N (it f j0 (N - j0).toNat x0)) : P j0 x0 := by
  have key : ∀ (k : Nat) (j : Int) (x : α), j + k = N → j0 ≤ j → I j x → I N (it f j k x) := by
    intro k
    induction k with
    | zero => intro j x h _ hi; have : j = N := by omega
              subst this; exact hi
    | succ k ih => intro j x h h1 hi; exact ih (j + 1) (f j x) (by omega) (by omega) (hI j x h1 (by omega) hi)
  exact up_ind (P := P) f (fun j x => j0 ≤ j ∧ I j x) N (fun j x h h2 => ⟨by omega, hI j x h2.1 h h2.2⟩) (fun j x h h2 => hs j x h2.1 h h2.2) (N - j0).toNat j0 x0 (by omega) ⟨Int.le_refl _, h0⟩ (hp (key _ j0 x0 (by omega) (Int.le_refl _) h0))
/-- a loop that may be left early: what comes is said from the end -/
theorem up_from {P : Int → Prop} (N : Int) (hN : P N) (hs : ∀ j, j < N → P (j + 1) → P j) : ∀ (k : Nat) (j : Int), j + k = N → P j
  | 0, j, h => by
    have : j = N := by omega
    rw [this]; exact hN
  | k + 1, j, h => hs j (by omega) (up_from N hN hs k (j + 1) (by omega))
def ab (x : Int) : Int := if 0 ≤ x then x else -x
def mx (a b : Int) : Int := if a < b then b else a
def mn (a b : Int) : Int := if b < a then b else a


theorem s_X11_isWithin {G : GG} {m : Mem} {Q : Option Value → Mem → Prop} {a b c : Int} (ha : rg a) (hb : rg b) (hc : rg c) (hQ : Q (some (.int (J (if b ≤ a ∧ a ≤ c then 1 else 0)))) m) : CM G 0 mX11_isWithin [.int (J (a)), .int (J (b)), .int (J (c))] m Q := by
  refine CM.of dkX11_isWithin (Or.inl rfl) [some _, some _, some _] rfl (Nat.le_of_ble_eq_true rfl) ?_
  refine x_iload_n (i := 0) (pc' := 1) rfl rfl rfl rfl ?_
  refine x_iload_n (i := 1) (pc' := 2) rfl rfl rfl rfl ?_
  refine x_icmplt (i := 2) (pc' := 5) (tgt := 14) rfl rfl (by decide) (by assumption) (by assumption) (fun c1 => ?_) (fun c1 => ?_)
  · skip
    refine x_iconst (i := 8) (pc' := 15) rfl rfl ?_
    exact m_zreturn (i := 9) rfl rfl (by omega) (by (repeat' split at hQ) <;> first | exact hQ | (exfalso; omega))
  · skip
    refine x_iload_n (i := 3) (pc' := 6) rfl rfl rfl rfl ?_
    refine x_iload_n (i := 4) (pc' := 7) rfl rfl rfl rfl ?_
    refine x_icmpgt (i := 5) (pc' := 10) (tgt := 14) rfl rfl (by decide) (by assumption) (by assumption) (fun c2 => ?_) (fun c2 => ?_)
    · skip
      refine x_iconst (i := 8) (pc' := 15) rfl rfl ?_
      exact m_zreturn (i := 9) rfl rfl (by omega) (by (repeat' split at hQ) <;> first | exact hQ | (exfalso; omega))
    · skip
      refine x_iconst (i := 6) (pc' := 11) rfl rfl ?_
      refine x_goto (i := 7) (pc' := 15) rfl (by decide) ?_
      exact m_zreturn (i := 9) rfl rfl (by omega) (by (repeat' split at hQ) <;> first | exact hQ | (exfalso; omega))
theorem s_X11_isSpot {G : GG} {m : Mem} {Q : Option Value → Mem → Prop} {a : Int} (ha : rg a) (hQ : Q (some (.int (J (if 0 ≤ a ∧ a ≤ 5 then 1 else 0)))) m) : CM G 1 mX11_isSpot [.int (J (a))] m Q := by
  refine CM.of dkX11_isSpot (Or.inl rfl) [some _] rfl (Nat.le_of_ble_eq_true rfl) ?_
  refine x_iload_n (i := 0) (pc' := 1) rfl rfl rfl rfl ?_
  refine x_iconst (i := 1) (pc' := 2) rfl rfl ?_
  refine x_iconst (i := 2) (pc' := 3) rfl rfl ?_
  refine m_callS (i := 3) (pc' := 6) (av := [_, _, _]) (rest := []) rfl rfl (by decide) lX11_112 rfl rfl (Nat.le_of_ble_eq_true rfl) (Nat.le_refl _) (Nat.le_refl _) (s_X11_isWithin (by omega) (by omega) (by omega) ?_)
  dsimp only [psh]
  exact m_zreturn (i := 4) rfl rfl (by split <;> omega) (hQ)
theorem s_X11_areWithin {G : GG} {m : Mem} {Q : Option Value → Mem → Prop} {h p q f l : Int} (h1 : rg h) (h2 : rg p) (h3 : rg q) (h4 : rg f) (h5 : rg l) (hQ : Q (some (.int (J (if (l ≤ h ∧ h ≤ 7) ∧ (l ≤ p ∧ p ≤ 7) ∧ (l ≤ q ∧ q ≤ 7) ∧ (l ≤ f ∧ f ≤ 7) then 1 else 0)))) m) : CM G 1 mX11_areWithin [.int (J (h)), .int (J (p)), .int (J (q)), .int (J (f)), .int (J (l))] m Q := by
  refine CM.of dkX11_areWithin (Or.inl rfl) [some _, some _, some _, some _, some _, none] rfl (Nat.le_of_ble_eq_true rfl) ?_
  refine x_bipush (i := 0) (pc' := 2) rfl rfl (by decide) ?_
  refine x_istore (L' := [some _, some _, some _, some _, some _, some _]) (i := 1) (pc' := 4) rfl rfl rfl (by decide) rfl ?_
  refine x_iload_n (i := 2) (pc' := 5) rfl rfl rfl rfl ?_
  refine x_iload (i := 3) (pc' := 7) rfl rfl rfl ?_
  refine x_iload (i := 4) (pc' := 9) rfl rfl rfl ?_
  refine m_callS (i := 5) (pc' := 12) (av := [_, _, _]) (rest := []) rfl rfl (by decide) lX11_112 rfl rfl (Nat.le_of_ble_eq_true rfl) (Nat.le_refl _) (Nat.le_refl _) (s_X11_isWithin (by assumption) (by assumption) (by decide) ?_)
  dsimp only [psh]
  refine x_ifeq (i := 6) (pc' := 15) (tgt := 52) rfl rfl (by decide) (by (repeat' split) <;> omega) (fun c1 => ?_) (fun c1 => ?_)
  · skip
    refine x_iconst (i := 24) (pc' := 53) rfl rfl ?_
    exact m_zreturn (i := 25) rfl rfl (by omega) (by (repeat' split at hQ) <;> first | exact hQ | (exfalso; omega))
  · skip
    refine x_iload_n (i := 7) (pc' := 16) rfl rfl rfl rfl ?_
    refine x_iload (i := 8) (pc' := 18) rfl rfl rfl ?_
    refine x_iload (i := 9) (pc' := 20) rfl rfl rfl ?_
    refine m_callS (i := 10) (pc' := 23) (av := [_, _, _]) (rest := []) rfl rfl (by decide) lX11_112 rfl rfl (Nat.le_of_ble_eq_true rfl) (Nat.le_refl _) (Nat.le_refl _) (s_X11_isWithin (by assumption) (by assumption) (by decide) ?_)
    dsimp only [psh]
    refine x_ifeq (i := 11) (pc' := 26) (tgt := 52) rfl rfl (by decide) (by (repeat' split) <;> omega) (fun c2 => ?_) (fun c2 => ?_)
    · skip
      refine x_iconst (i := 24) (pc' := 53) rfl rfl ?_
      exact m_zreturn (i := 25) rfl rfl (by omega) (by (repeat' split at hQ) <;> first | exact hQ | (exfalso; omega))
    · skip
      refine x_iload_n (i := 12) (pc' := 27) rfl rfl rfl rfl ?_
      refine x_iload (i := 13) (pc' := 29) rfl rfl rfl ?_
      refine x_iload (i := 14) (pc' := 31) rfl rfl rfl ?_
      refine m_callS (i := 15) (pc' := 34) (av := [_, _, _]) (rest := []) rfl rfl (by decide) lX11_112 rfl rfl (Nat.le_of_ble_eq_true rfl) (Nat.le_refl _) (Nat.le_refl _) (s_X11_isWithin (by assumption) (by assumption) (by decide) ?_)
      dsimp only [psh]
      refine x_ifeq (i := 16) (pc' := 37) (tgt := 52) rfl rfl (by decide) (by (repeat' split) <;> omega) (fun c3 => ?_) (fun c3 => ?_)
      · skip
        refine x_iconst (i := 24) (pc' := 53) rfl rfl ?_
        exact m_zreturn (i := 25) rfl rfl (by omega) (by (repeat' split at hQ) <;> first | exact hQ | (exfalso; omega))
      · skip
        refine x_iload_n (i := 17) (pc' := 38) rfl rfl rfl rfl ?_
        refine x_iload (i := 18) (pc' := 40) rfl rfl rfl ?_
        refine x_iload (i := 19) (pc' := 42) rfl rfl rfl ?_
        refine m_callS (i := 20) (pc' := 45) (av := [_, _, _]) (rest := []) rfl rfl (by decide) lX11_112 rfl rfl (Nat.le_of_ble_eq_true rfl) (Nat.le_refl _) (Nat.le_refl _) (s_X11_isWithin (by assumption) (by assumption) (by decide) ?_)
        dsimp only [psh]
        refine x_ifeq (i := 21) (pc' := 48) (tgt := 52) rfl rfl (by decide) (by (repeat' split) <;> omega) (fun c4 => ?_) (fun c4 => ?_)
        · skip
          refine x_iconst (i := 24) (pc' := 53) rfl rfl ?_
          exact m_zreturn (i := 25) rfl rfl (by omega) (by (repeat' split at hQ) <;> first | exact hQ | (exfalso; omega))
        · skip
          refine x_iconst (i := 22) (pc' := 49) rfl rfl ?_
          refine x_goto (i := 23) (pc' := 53) rfl (by decide) ?_
          exact m_zreturn (i := 25) rfl rfl (by omega) (by (repeat' split at hQ) <;> first | exact hQ | (exfalso; omega))
theorem pf_abs_0f7a4 : plainFor mJ9_abs_0f7a4.1 = true := by decide +kernel
theorem pf_max_7cf53 : plainFor mJ9_max_7cf53.1 = true := by decide +kernel
theorem pf_min_7cf53 : plainFor mJ9_min_7cf53.1 = true := by decide +kernel
theorem s_J9_abs_0f7a4 {G : GG} {m : Mem} {Q : Option Value → Mem → Prop} {a : Int} (ha : rg a) (hQ : Q (some (.int (J (ab a)))) m) : CM G 0 mJ9_abs_0f7a4 [.int (J (a))] m Q := by
  refine CM.of dkJ9_abs_0f7a4 (Or.inr pf_abs_0f7a4) [some _] rfl (Nat.le_of_ble_eq_true rfl) ?_
  refine x_iload_n (i := 0) (pc' := 1) rfl rfl rfl rfl ?_
  refine x_ifge (i := 1) (pc' := 4) (tgt := 9) rfl rfl (by decide) (by assumption) (fun c1 => ?_) (fun c1 => ?_)
  · skip
    refine x_iload_n (i := 5) (pc' := 10) rfl rfl rfl rfl ?_
    exact m_ireturn (i := 6) rfl rfl (by unfold ab at hQ; (repeat' split at hQ) <;> first | exact hQ | (exfalso; omega))
  · skip
    refine x_iload_n (i := 2) (pc' := 5) rfl rfl rfl rfl ?_
    refine x_ineg (i := 3) (pc' := 6) rfl rfl ?_
    refine x_goto (i := 4) (pc' := 10) rfl (by decide) ?_
    exact m_ireturn (i := 6) rfl rfl (by unfold ab at hQ; (repeat' split at hQ) <;> first | exact hQ | (exfalso; omega))
theorem s_J9_max_7cf53 {G : GG} {m : Mem} {Q : Option Value → Mem → Prop} {a b : Int} (ha : rg a) (hb : rg b) (hQ : Q (some (.int (J (mx a b)))) m) : CM G 0 mJ9_max_7cf53 [.int (J (a)), .int (J (b))] m Q := by
  refine CM.of dkJ9_max_7cf53 (Or.inr pf_max_7cf53) [some _, some _] rfl (Nat.le_of_ble_eq_true rfl) ?_
  refine x_iload_n (i := 0) (pc' := 1) rfl rfl rfl rfl ?_
  refine x_iload_n (i := 1) (pc' := 2) rfl rfl rfl rfl ?_
  refine x_icmplt (i := 2) (pc' := 5) (tgt := 9) rfl rfl (by decide) (by assumption) (by assumption) (fun c1 => ?_) (fun c1 => ?_)
  · skip
    refine x_iload_n (i := 5) (pc' := 10) rfl rfl rfl rfl ?_
    exact m_ireturn (i := 6) rfl rfl (by unfold mx at hQ; (repeat' split at hQ) <;> first | exact hQ | (exfalso; omega))
  · skip
    refine x_iload_n (i := 3) (pc' := 6) rfl rfl rfl rfl ?_
    refine x_goto (i := 4) (pc' := 10) rfl (by decide) ?_
    exact m_ireturn (i := 6) rfl rfl (by unfold mx at hQ; (repeat' split at hQ) <;> first | exact hQ | (exfalso; omega))
theorem s_J9_min_7cf53 {G : GG} {m : Mem} {Q : Option Value → Mem → Prop} {a b : Int} (ha : rg a) (hb : rg b) (hQ : Q (some (.int (J (mn a b)))) m) : CM G 0 mJ9_min_7cf53 [.int (J (a)), .int (J (b))] m Q := by
  refine CM.of dkJ9_min_7cf53 (Or.inr pf_min_7cf53) [some _, some _] rfl (Nat.le_of_ble_eq_true rfl) ?_
  refine x_iload_n (i := 0) (pc' := 1) rfl rfl rfl rfl ?_
  refine x_iload_n (i := 1) (pc' := 2) rfl rfl rfl rfl ?_
  refine x_icmpgt (i := 2) (pc' := 5) (tgt := 9) rfl rfl (by decide) (by assumption) (by assumption) (fun c1 => ?_) (fun c1 => ?_)
  · skip
    refine x_iload_n (i := 5) (pc' := 10) rfl rfl rfl rfl ?_
    exact m_ireturn (i := 6) rfl rfl (by unfold mn at hQ; (repeat' split at hQ) <;> first | exact hQ | (exfalso; omega))
  · skip
    refine x_iload_n (i := 3) (pc' := 6) rfl rfl rfl rfl ?_
    refine x_goto (i := 4) (pc' := 10) rfl (by decide) ?_
    exact m_ireturn (i := 6) rfl rfl (by unfold mn at hQ; (repeat' split at hQ) <;> first | exact hQ | (exfalso; omega))
theorem s_X3_trait {G : GG} {m : Mem} {Q : Option Value → Mem → Prop} {a b : Int} (ha : 0 ≤ a ∧ a ≤ 16) (hb : 0 ≤ b ∧ b ≤ 4) (hQ : Q (some (.int (J (m 3 (a * 5 + b))))) m) : CM G 0 mX3_trait [.ref (G.2.2.2 2), .int (J (a)), .int (J (b))] m Q := by
  refine CM.of dkX3_trait (Or.inl rfl) [some _, some _, some _] rfl (Nat.le_of_ble_eq_true rfl) ?_
  refine x_iload_n (i := 0) (pc' := 1) rfl rfl rfl rfl ?_
  refine x_iflt (i := 1) (pc' := 4) (tgt := 32) rfl rfl (by decide) ⟨by omega, by omega⟩ (fun c1 => ?_) (fun c1 => ?_)
  · first | (exfalso; omega; done) | skip
    all_goals (
      refine x_iconst (i := 19) (pc' := 33) rfl rfl ?_
      exact m_ireturn (i := 20) rfl rfl (hQ)
      skip)
  · first | (exfalso; omega; done) | skip
    all_goals (
      refine x_iload_n (i := 2) (pc' := 5) rfl rfl rfl rfl ?_
      refine x_bipush (i := 3) (pc' := 7) rfl rfl (by decide) ?_
      refine x_icmpgt (i := 4) (pc' := 10) (tgt := 32) rfl rfl (by decide) ⟨by omega, by omega⟩ ⟨by omega, by omega⟩ (fun c2 => ?_) (fun c2 => ?_)
      · first | (exfalso; omega; done) | skip
        all_goals (
          refine x_iconst (i := 19) (pc' := 33) rfl rfl ?_
          exact m_ireturn (i := 20) rfl rfl (hQ)
          skip)
      · first | (exfalso; omega; done) | skip
        all_goals (
          refine x_iload_n (i := 5) (pc' := 11) rfl rfl rfl rfl ?_
          refine x_iflt (i := 6) (pc' := 14) (tgt := 32) rfl rfl (by decide) ⟨by omega, by omega⟩ (fun c3 => ?_) (fun c3 => ?_)
          · first | (exfalso; omega; done) | skip
            all_goals (
              refine x_iconst (i := 19) (pc' := 33) rfl rfl ?_
              exact m_ireturn (i := 20) rfl rfl (hQ)
              skip)
          · first | (exfalso; omega; done) | skip
            all_goals (
              refine x_iload_n (i := 7) (pc' := 15) rfl rfl rfl rfl ?_
              refine x_iconst (i := 8) (pc' := 16) rfl rfl ?_
              refine x_icmpgt (i := 9) (pc' := 19) (tgt := 32) rfl rfl (by decide) ⟨by omega, by omega⟩ ⟨by omega, by omega⟩ (fun c4 => ?_) (fun c4 => ?_)
              · first | (exfalso; omega; done) | skip
                all_goals (
                  refine x_iconst (i := 19) (pc' := 33) rfl rfl ?_
                  exact m_ireturn (i := 20) rfl rfl (hQ)
                  skip)
              · first | (exfalso; omega; done) | skip
                all_goals (
                  refine x_aload_n (i := 10) (pc' := 20) rfl rfl rfl rfl ?_
                  refine m_getf (i := 11) (pc' := 23) rfl rfl flX3_9 (sh2 G) rfl rfl ?_
                  refine x_iload_n (i := 12) (pc' := 24) rfl rfl rfl rfl ?_
                  refine x_iconst (i := 13) (pc' := 25) rfl rfl ?_
                  refine x_imul (i := 14) (pc' := 26) rfl rfl ?_
                  refine x_iload_n (i := 15) (pc' := 27) rfl rfl rfl rfl ?_
                  refine x_iadd (i := 16) (pc' := 28) rfl rfl ?_
                  refine m_iald (i := 17) (pc' := 29) rfl rfl (sh3 G) (by decide) ⟨by omega, by omega⟩ ?_
                  refine x_goto (i := 18) (pc' := 33) rfl (by decide) ?_
                  exact m_ireturn (i := 20) rfl rfl (hQ)
                  skip)
              skip)
          skip)
      skip)
def pop (z : Int) : Int := z % 2 + z / 2 % 2 + z / 4 % 2 + z / 8 % 2
def MR (m : Mem) : Prop := ∀ (q : Nat) (j : Int), rg (m q j)
theorem io_nn (a b : Int) : 0 ≤ io a b := Int.natCast_nonneg _
theorem ia_nn (a b : Int) : 0 ≤ ia a b := Int.natCast_nonneg _
theorem ix_le {a b : Int} (ha : 0 ≤ a ∧ a ≤ 7) (hb : 0 ≤ b ∧ b ≤ 7) : 0 ≤ ix a b ∧ ix a b ≤ 7 := by
  have h := Nat.xor_lt_two_pow (n := 3) (show a.toNat < 2 ^ 3 by omega) (show b.toNat < 2 ^ 3 by omega)
  unfold ix
  omega
def bcx (x : Int32) : Int32 :=
  let a := x - ((x.toUInt32 >>> ((J 1).toUInt32 &&& Int32.toUInt32 31)).toInt32 &&& J 1431655765)
  let b := (a &&& J 858993459) + ((a.toUInt32 >>> ((J 2).toUInt32 &&& Int32.toUInt32 31)).toInt32 &&& J 858993459)
  let c := (b + (b.toUInt32 >>> ((J 4).toUInt32 &&& Int32.toUInt32 31)).toInt32) &&& J 252645135
  let d := c + (c.toUInt32 >>> ((J 8).toUInt32 &&& Int32.toUInt32 31)).toInt32
  let e := d + (d.toUInt32 >>> ((J 16).toUInt32 &&& Int32.toUInt32 31)).toInt32
  e &&& J 63
theorem bcx_ok : ∀ z : Nat, z < 16 → bcx (J (z : Int)) = J (pop (z : Int)) := by decide +kernel
theorem s_J6_bitCount_0f7a4 {G : GG} {m : Mem} {Q : Option Value → Mem → Prop} {z : Int} (hz : 0 ≤ z ∧ z ≤ 15) (hQ : Q (some (.int (J (pop z)))) m) : CM G 0 mJ6_bitCount_0f7a4 [.int (J z)] m Q := by
  have e := bcx_ok z.toNat (by omega)
  rw [Int.toNat_of_nonneg hz.1] at e
  rw [← e] at hQ
  refine CM.of dkJ6_bitCount_0f7a4 (Or.inl rfl) [some _] rfl (Nat.le_of_ble_eq_true rfl) ?_
  refine x_iload_n (i := 0) (pc' := 1) rfl rfl rfl rfl ?_
  refine x_iload_n (i := 1) (pc' := 2) rfl rfl rfl rfl ?_
  refine x_iconst (i := 2) (pc' := 3) rfl rfl ?_
  refine x_riushr (i := 3) (pc' := 4) rfl rfl ?_
  refine x_ldcw (i := 4) (pc' := 7) rfl rfl kJ6_265 ?_
  refine x_riand (i := 5) (pc' := 8) rfl rfl ?_
  refine x_risub (i := 6) (pc' := 9) rfl rfl ?_
  refine x_istore_n (L' := [some _]) (i := 7) (pc' := 10) rfl rfl rfl rfl (by decide) rfl ?_
  refine x_iload_n (i := 8) (pc' := 11) rfl rfl rfl rfl ?_
  refine x_ldcw (i := 9) (pc' := 14) rfl rfl kJ6_266 ?_
  refine x_riand (i := 10) (pc' := 15) rfl rfl ?_
  refine x_iload_n (i := 11) (pc' := 16) rfl rfl rfl rfl ?_
  refine x_iconst (i := 12) (pc' := 17) rfl rfl ?_
  refine x_riushr (i := 13) (pc' := 18) rfl rfl ?_
  refine x_ldcw (i := 14) (pc' := 21) rfl rfl kJ6_266 ?_
  refine x_riand (i := 15) (pc' := 22) rfl rfl ?_
  refine x_riadd (i := 16) (pc' := 23) rfl rfl ?_
  refine x_istore_n (L' := [some _]) (i := 17) (pc' := 24) rfl rfl rfl rfl (by decide) rfl ?_
  refine x_iload_n (i := 18) (pc' := 25) rfl rfl rfl rfl ?_
  refine x_iload_n (i := 19) (pc' := 26) rfl rfl rfl rfl ?_
  refine x_iconst (i := 20) (pc' := 27) rfl rfl ?_
  refine x_riushr (i := 21) (pc' := 28) rfl rfl ?_
  refine x_riadd (i := 22) (pc' := 29) rfl rfl ?_
  refine x_ldcw (i := 23) (pc' := 32) rfl rfl kJ6_267 ?_
  refine x_riand (i := 24) (pc' := 33) rfl rfl ?_
  refine x_istore_n (L' := [some _]) (i := 25) (pc' := 34) rfl rfl rfl rfl (by decide) rfl ?_
  refine x_iload_n (i := 26) (pc' := 35) rfl rfl rfl rfl ?_
  refine x_iload_n (i := 27) (pc' := 36) rfl rfl rfl rfl ?_
  refine x_bipush (i := 28) (pc' := 38) rfl rfl (by decide) ?_
  refine x_riushr (i := 29) (pc' := 39) rfl rfl ?_
  refine x_riadd (i := 30) (pc' := 40) rfl rfl ?_
  refine x_istore_n (L' := [some _]) (i := 31) (pc' := 41) rfl rfl rfl rfl (by decide) rfl ?_
  refine x_iload_n (i := 32) (pc' := 42) rfl rfl rfl rfl ?_
  refine x_iload_n (i := 33) (pc' := 43) rfl rfl rfl rfl ?_
  refine x_bipush (i := 34) (pc' := 45) rfl rfl (by decide) ?_
  refine x_riushr (i := 35) (pc' := 46) rfl rfl ?_
  refine x_riadd (i := 36) (pc' := 47) rfl rfl ?_
  refine x_istore_n (L' := [some _]) (i := 37) (pc' := 48) rfl rfl rfl rfl (by decide) rfl ?_
  refine x_iload_n (i := 38) (pc' := 49) rfl rfl rfl rfl ?_
  refine x_bipush (i := 39) (pc' := 51) rfl rfl (by decide) ?_
  refine x_riand (i := 40) (pc' := 52) rfl rfl ?_
  exact m_ireturn (i := 41) rfl rfl hQ
end
section
def fg (a b : Int) : Int := if a = b then 0 else if a / 2 = b / 2 then 1 else if a / 4 = b / 4 then 2 else 3
def gp (p a b : Int) : Int := if p = 0 then pop (ix a b) else if p = 1 then ab (a % 4 - b % 4) + ab (a / 4 - b / 4) else if p = 2 then mn (ab (a - b)) (8 - ab (a - b)) else fg a b
def ds (m : Mem) (a b : Int) : Int := it (fun p x => x + m 4 p * gp p (m 3 (a * 5 + p)) (m 3 (b * 5 + p))) 0 4 0
def df (m : Mem) (a b : Int) : Int := it (fun p x => if m 3 (a * 5 + p) = m 3 (b * 5 + p) then x else io x (1 * 2 ^ p.toNat)) 0 4 0
def RV (m : Mem) (a : Int) : Prop := ∀ p, 0 ≤ p → p ≤ 3 → 0 ≤ m 3 (a * 5 + p) ∧ m 3 (a * 5 + p) ≤ 7
def WT (m : Mem) : Prop := ∀ p, 0 ≤ p → p ≤ 3 → 0 ≤ m 4 p ∧ m 4 p ≤ 5
theorem ab_le {x n : Int} (h : -n ≤ x ∧ x ≤ n) : 0 ≤ ab x ∧ ab x ≤ n := by unfold ab; split <;> omega
theorem pop_le (z : Int) : 0 ≤ pop z ∧ pop z ≤ 4 := by unfold pop; omega
theorem gp_le {p a b : Int} (ha : 0 ≤ a ∧ a ≤ 7) (hb : 0 ≤ b ∧ b ≤ 7) : 0 ≤ gp p a b ∧ gp p a b ≤ 8 := by
  unfold gp
  split
  · have := pop_le (ix a b); omega
  · split
    · have h1 := ab_le (x := a % 4 - b % 4) (n := 3) (by omega)
      have h2 := ab_le (x := a / 4 - b / 4) (n := 1) (by omega)
      omega
    · split
      · have h1 := ab_le (x := a - b) (n := 7) (by omega)
        unfold mn; split <;> omega
      · unfold fg; (repeat' split) <;> omega
theorem mul_le {w g : Int} (hw : 0 ≤ w ∧ w ≤ 5) (hg : 0 ≤ g ∧ g ≤ 8) : 0 ≤ w * g ∧ w * g ≤ 40 := by
  refine ⟨Int.mul_nonneg hw.1 hg.1, ?_⟩
  have h1 : w * g ≤ 5 * g := Int.mul_le_mul_of_nonneg_right hw.2 hg.1
  omega
theorem ds_le {m : Mem} {a b : Int} (ha : RV m a) (hb : RV m b) (hw : WT m) : 0 ≤ ds m a b ∧ ds m a b ≤ 160 := by
  have k : ∀ p, 0 ≤ p → p ≤ 3 → 0 ≤ m 4 p * gp p (m 3 (a * 5 + p)) (m 3 (b * 5 + p)) ∧ m 4 p * gp p (m 3 (a * 5 + p)) (m 3 (b * 5 + p)) ≤ 40 := fun p h1 h2 => mul_le (hw p h1 h2) (gp_le (ha p h1 h2) (hb p h1 h2))
  have k0 := k 0 (by omega) (by omega)
  have k1 := k 1 (by omega) (by omega)
  have k2 := k 2 (by omega) (by omega)
  have k3 := k 3 (by omega) (by omega)
  simp only [ds, it]
  show 0 ≤ 0 + m 4 0 * gp 0 (m 3 (a * 5 + 0)) (m 3 (b * 5 + 0)) + m 4 1 * gp 1 (m 3 (a * 5 + 1)) (m 3 (b * 5 + 1)) + m 4 2 * gp 2 (m 3 (a * 5 + 2)) (m 3 (b * 5 + 2)) + m 4 3 * gp 3 (m 3 (a * 5 + 3)) (m 3 (b * 5 + 3)) ∧ 0 + m 4 0 * gp 0 (m 3 (a * 5 + 0)) (m 3 (b * 5 + 0)) + m 4 1 * gp 1 (m 3 (a * 5 + 1)) (m 3 (b * 5 + 1)) + m 4 2 * gp 2 (m 3 (a * 5 + 2)) (m 3 (b * 5 + 2)) + m 4 3 * gp 3 (m 3 (a * 5 + 3)) (m 3 (b * 5 + 3)) ≤ 160
  omega
theorem s_X3_faceGap {G : GG} {m : Mem} {Q : Option Value → Mem → Prop} {a b : Int} (ha : 0 ≤ a ∧ a ≤ 7) (hb : 0 ≤ b ∧ b ≤ 7) (hQ : Q (some (.int (J (fg a b)))) m) : CM G 0 mX3_faceGap [.int (J (a)), .int (J (b))] m Q := by
  refine CM.of dkX3_faceGap (Or.inl rfl) [some _, some _] rfl (Nat.le_of_ble_eq_true rfl) ?_
  refine x_iload_n (i := 0) (pc' := 1) rfl rfl rfl rfl ?_
  refine x_iload_n (i := 1) (pc' := 2) rfl rfl rfl rfl ?_
  refine x_icmpne (i := 2) (pc' := 5) (tgt := 7) rfl rfl (by decide) ⟨by omega, by omega⟩ ⟨by omega, by omega⟩ (fun c1 => ?_) (fun c1 => ?_)
  · skip
    refine x_iload_n (i := 5) (pc' := 8) rfl rfl rfl rfl ?_
    refine x_iconst (i := 6) (pc' := 9) rfl rfl ?_
    refine x_idiv (i := 7) (pc' := 10) rfl rfl ⟨by omega, by omega⟩ ⟨by omega, by omega⟩ (by omega) (by omega) ?_
    refine x_iload_n (i := 8) (pc' := 11) rfl rfl rfl rfl ?_
    refine x_iconst (i := 9) (pc' := 12) rfl rfl ?_
    refine x_idiv (i := 10) (pc' := 13) rfl rfl ⟨by omega, by omega⟩ ⟨by omega, by omega⟩ (by omega) (by omega) ?_
    refine x_icmpne (i := 11) (pc' := 16) (tgt := 18) rfl rfl (by decide) ⟨by omega, by omega⟩ ⟨by omega, by omega⟩ (fun c2 => ?_) (fun c2 => ?_)
    · skip
      refine x_iload_n (i := 14) (pc' := 19) rfl rfl rfl rfl ?_
      refine x_iconst (i := 15) (pc' := 20) rfl rfl ?_
      refine x_idiv (i := 16) (pc' := 21) rfl rfl ⟨by omega, by omega⟩ ⟨by omega, by omega⟩ (by omega) (by omega) ?_
      refine x_iload_n (i := 17) (pc' := 22) rfl rfl rfl rfl ?_
      refine x_iconst (i := 18) (pc' := 23) rfl rfl ?_
      refine x_idiv (i := 19) (pc' := 24) rfl rfl ⟨by omega, by omega⟩ ⟨by omega, by omega⟩ (by omega) (by omega) ?_
      refine x_icmpne (i := 20) (pc' := 27) (tgt := 31) rfl rfl (by decide) ⟨by omega, by omega⟩ ⟨by omega, by omega⟩ (fun c3 => ?_) (fun c3 => ?_)
      · skip
        refine x_iconst (i := 23) (pc' := 32) rfl rfl ?_
        exact m_ireturn (i := 24) rfl rfl (by unfold fg at hQ; (repeat' split at hQ) <;> first | exact hQ | (exfalso; omega))
      · skip
        refine x_iconst (i := 21) (pc' := 28) rfl rfl ?_
        refine x_goto (i := 22) (pc' := 32) rfl (by decide) ?_
        exact m_ireturn (i := 24) rfl rfl (by unfold fg at hQ; (repeat' split at hQ) <;> first | exact hQ | (exfalso; omega))
    · skip
      refine x_iconst (i := 12) (pc' := 17) rfl rfl ?_
      exact m_ireturn (i := 13) rfl rfl (by unfold fg at hQ; (repeat' split at hQ) <;> first | exact hQ | (exfalso; omega))
  · skip
    refine x_iconst (i := 3) (pc' := 6) rfl rfl ?_
    exact m_ireturn (i := 4) rfl rfl (by unfold fg at hQ; (repeat' split at hQ) <;> first | exact hQ | (exfalso; omega))
theorem s_X3_gap {G : GG} {m : Mem} {Q : Option Value → Mem → Prop} {p a b : Int} (hp : 0 ≤ p ∧ p ≤ 3) (ha : 0 ≤ a ∧ a ≤ 16) (hb : 0 ≤ b ∧ b ≤ 16) (h1 : 0 ≤ m 3 (a * 5 + p) ∧ m 3 (a * 5 + p) ≤ 7) (h2 : 0 ≤ m 3 (b * 5 + p) ∧ m 3 (b * 5 + p) ≤ 7) (hQ : Q (some (.int (J (gp p (m 3 (a * 5 + p)) (m 3 (b * 5 + p)))))) m) : CM G 1 mX3_gap [.ref (G.2.2.2 2), .int (J (p)), .int (J (a)), .int (J (b))] m Q := by
  refine CM.of dkX3_gap (Or.inl rfl) [some _, some _, some _, some _, none, none] rfl (Nat.le_of_ble_eq_true rfl) ?_
  have hx := ix_le h1 h2
  have hab := ab_le (x := m 3 (a * 5 + p) - m 3 (b * 5 + p)) (n := 7) (by omega)
  refine x_aload_n (i := 0) (pc' := 1) rfl rfl rfl rfl ?_
  refine x_iload_n (i := 1) (pc' := 2) rfl rfl rfl rfl ?_
  refine x_iload_n (i := 2) (pc' := 3) rfl rfl rfl rfl ?_
  refine m_callV (i := 3) (pc' := 6) (av := [_, _]) (rest := []) rfl rfl (by decide) lX3_59 (sh2 G) rfl rfl rfl rfl rfl (Nat.le_of_ble_eq_true rfl) (Nat.le_refl _) (Nat.le_refl _) (s_X3_trait (by omega) (by omega) ?_)
  dsimp only [psh]
  refine x_istore (L' := [some _, some _, some _, some _, some _, none]) (i := 4) (pc' := 8) rfl rfl rfl (by decide) rfl ?_
  refine x_aload_n (i := 5) (pc' := 9) rfl rfl rfl rfl ?_
  refine x_iload_n (i := 6) (pc' := 10) rfl rfl rfl rfl ?_
  refine x_iload_n (i := 7) (pc' := 11) rfl rfl rfl rfl ?_
  refine m_callV (i := 8) (pc' := 14) (av := [_, _]) (rest := []) rfl rfl (by decide) lX3_59 (sh2 G) rfl rfl rfl rfl rfl (Nat.le_of_ble_eq_true rfl) (Nat.le_refl _) (Nat.le_refl _) (s_X3_trait (by omega) (by omega) ?_)
  dsimp only [psh]
  refine x_istore (L' := [some _, some _, some _, some _, some _, some _]) (i := 9) (pc' := 16) rfl rfl rfl (by decide) rfl ?_
  refine x_iload_n (i := 10) (pc' := 17) rfl rfl rfl rfl ?_
  rcases (by omega : p = 0 ∨ p = 1 ∨ p = 2 ∨ (p < 0 ∨ 2 < p)) with c1 | c1 | c1 | c1
  · first | (exfalso; omega; done) | skip
    all_goals (
      refine x_tableIn (i := 11) (v := 0) (off := 27) (tgt := 44) rfl c1 ⟨by decide, by decide⟩ (by decide) (by decide) rfl (by decide) ?_
      refine x_iload (i := 12) (pc' := 46) rfl rfl rfl ?_
      refine x_iload (i := 13) (pc' := 48) rfl rfl rfl ?_
      refine x_ixor (i := 14) (pc' := 49) rfl rfl (by omega) (by omega) ?_
      refine m_callS (i := 15) (pc' := 52) (av := [_]) (rest := []) rfl rfl (by decide) lX3_75 rfl rfl (Nat.le_of_ble_eq_true rfl) (Nat.le_refl _) (Nat.le_refl _) (s_J6_bitCount_0f7a4 (by omega) ?_)
      dsimp only [psh]
      exact m_ireturn (i := 16) rfl rfl (by unfold gp at hQ; (repeat' split at hQ) <;> first | exact hQ | (exfalso; omega))
      skip)
  · first | (exfalso; omega; done) | skip
    all_goals (
      refine x_tableIn (i := 11) (v := 1) (off := 36) (tgt := 53) rfl c1 ⟨by decide, by decide⟩ (by decide) (by decide) rfl (by decide) ?_
      refine x_iload (i := 17) (pc' := 55) rfl rfl rfl ?_
      refine x_iconst (i := 18) (pc' := 56) rfl rfl ?_
      refine x_irem (i := 19) (pc' := 57) rfl rfl ⟨by omega, by omega⟩ ⟨by omega, by omega⟩ (by omega) (by omega) ?_
      refine x_iload (i := 20) (pc' := 59) rfl rfl rfl ?_
      refine x_iconst (i := 21) (pc' := 60) rfl rfl ?_
      refine x_irem (i := 22) (pc' := 61) rfl rfl ⟨by omega, by omega⟩ ⟨by omega, by omega⟩ (by omega) (by omega) ?_
      refine x_isub (i := 23) (pc' := 62) rfl rfl ?_
      refine m_callS (i := 24) (pc' := 65) (av := [_]) (rest := []) rfl rfl (by decide) lX3_81 rfl rfl (Nat.le_of_ble_eq_true rfl) (Nat.le_refl _) (Nat.le_refl _) (s_J9_abs_0f7a4 (by omega) ?_)
      dsimp only [psh]
      refine x_iload (i := 25) (pc' := 67) rfl rfl rfl ?_
      refine x_iconst (i := 26) (pc' := 68) rfl rfl ?_
      refine x_idiv (i := 27) (pc' := 69) rfl rfl ⟨by omega, by omega⟩ ⟨by omega, by omega⟩ (by omega) (by omega) ?_
      refine x_iload (i := 28) (pc' := 71) rfl rfl rfl ?_
      refine x_iconst (i := 29) (pc' := 72) rfl rfl ?_
      refine x_idiv (i := 30) (pc' := 73) rfl rfl ⟨by omega, by omega⟩ ⟨by omega, by omega⟩ (by omega) (by omega) ?_
      refine x_isub (i := 31) (pc' := 74) rfl rfl ?_
      refine m_callS (i := 32) (pc' := 77) (av := [_]) (rest := [_]) rfl rfl (by decide) lX3_81 rfl rfl (Nat.le_of_ble_eq_true rfl) (Nat.le_refl _) (Nat.le_refl _) (s_J9_abs_0f7a4 (by omega) ?_)
      dsimp only [psh]
      refine x_iadd (i := 33) (pc' := 78) rfl rfl ?_
      exact m_ireturn (i := 34) rfl rfl (by unfold gp at hQ; (repeat' split at hQ) <;> first | exact hQ | (exfalso; omega))
      skip)
  · first | (exfalso; omega; done) | skip
    all_goals (
      refine x_tableIn (i := 11) (v := 2) (off := 62) (tgt := 79) rfl c1 ⟨by decide, by decide⟩ (by decide) (by decide) rfl (by decide) ?_
      refine x_iload (i := 35) (pc' := 81) rfl rfl rfl ?_
      refine x_iload (i := 36) (pc' := 83) rfl rfl rfl ?_
      refine x_isub (i := 37) (pc' := 84) rfl rfl ?_
      refine m_callS (i := 38) (pc' := 87) (av := [_]) (rest := []) rfl rfl (by decide) lX3_81 rfl rfl (Nat.le_of_ble_eq_true rfl) (Nat.le_refl _) (Nat.le_refl _) (s_J9_abs_0f7a4 (by omega) ?_)
      dsimp only [psh]
      refine x_bipush (i := 39) (pc' := 89) rfl rfl (by decide) ?_
      refine x_iload (i := 40) (pc' := 91) rfl rfl rfl ?_
      refine x_iload (i := 41) (pc' := 93) rfl rfl rfl ?_
      refine x_isub (i := 42) (pc' := 94) rfl rfl ?_
      refine m_callS (i := 43) (pc' := 97) (av := [_]) (rest := [_, _]) rfl rfl (by decide) lX3_81 rfl rfl (Nat.le_of_ble_eq_true rfl) (Nat.le_refl _) (Nat.le_refl _) (s_J9_abs_0f7a4 (by omega) ?_)
      dsimp only [psh]
      refine x_isub (i := 44) (pc' := 98) rfl rfl ?_
      refine m_callS (i := 45) (pc' := 101) (av := [_, _]) (rest := []) rfl rfl (by decide) lX3_86 rfl rfl (Nat.le_of_ble_eq_true rfl) (Nat.le_refl _) (Nat.le_refl _) (s_J9_min_7cf53 (by omega) (by omega) ?_)
      dsimp only [psh]
      exact m_ireturn (i := 46) rfl rfl (by unfold gp at hQ; (repeat' split at hQ) <;> first | exact hQ | (exfalso; omega))
      skip)
  · first | (exfalso; omega; done) | skip
    all_goals (
      refine x_tableOut (i := 11) (tgt := 102) rfl ⟨by omega, by omega⟩ c1 (by decide) ?_
      refine x_iload (i := 47) (pc' := 104) rfl rfl rfl ?_
      refine x_iload (i := 48) (pc' := 106) rfl rfl rfl ?_
      refine m_callS (i := 49) (pc' := 109) (av := [_, _]) (rest := []) rfl rfl (by decide) lX3_89 rfl rfl (Nat.le_of_ble_eq_true rfl) (Nat.le_refl _) (Nat.le_refl _) (s_X3_faceGap (by omega) (by omega) ?_)
      dsimp only [psh]
      exact m_ireturn (i := 50) rfl rfl (by unfold gp at hQ; (repeat' split at hQ) <;> first | exact hQ | (exfalso; omega))
      skip)
theorem s_X3_distance {G : GG} {m : Mem} {Q : Option Value → Mem → Prop} {a b : Int} (ha : 0 ≤ a ∧ a ≤ 16) (hb : 0 ≤ b ∧ b ≤ 16) (h1 : RV m a) (h2 : RV m b) (hQ : Q (some (.int (J (ds m a b)))) m) : CM G 2 mX3_distance [.ref (G.2.2.2 2), .int (J (a)), .int (J (b))] m Q := by
  refine CM.of dkX3_distance (Or.inl rfl) [some _, some _, some _, none, none] rfl (Nat.le_of_ble_eq_true rfl) ?_
  refine x_iconst (i := 0) (pc' := 1) rfl rfl ?_
  refine x_istore_n (L' := [some _, some _, some _, some _, none]) (i := 1) (pc' := 2) rfl rfl rfl rfl (by decide) rfl ?_
  refine x_iconst (i := 2) (pc' := 3) rfl rfl ?_
  refine x_istore (L' := [some _, some _, some _, some _, some _]) (i := 3) (pc' := 5) rfl rfl rfl (by decide) rfl ?_
  skip
  refine up_ind0 (P := fun (j : Int) (x : Int) => BW G 2 mX3_distance Q 5 [some (.ref (G.2.2.2 2)), some (.int (J (a))), some (.int (J (b))), some (.int (J (x))), some (.int (J (j)))] [] m) (fun (j : Int) (x : Int) => x + m 4 j * gp j (m 3 (a * 5 + j)) (m 3 (b * 5 + j))) (4) (0) (0) (by omega) (fun j x hj0 hj hk => ?_) ?_
  · skip
    refine x_iload (i := 4) (pc' := 7) rfl rfl rfl ?_
    refine x_iconst (i := 5) (pc' := 8) rfl rfl ?_
    refine x_icmpge (i := 6) (pc' := 11) (tgt := 36) rfl rfl (by decide) ⟨by omega, by omega⟩ ⟨by omega, by omega⟩ (fun c1 => by exfalso; omega) (fun c1 => ?_)
    refine x_iload_n (i := 7) (pc' := 12) rfl rfl rfl rfl ?_
    refine x_aload_n (i := 8) (pc' := 13) rfl rfl rfl rfl ?_
    refine m_getf (i := 9) (pc' := 16) rfl rfl flX3_15 (sh2 G) rfl rfl ?_
    refine x_iload (i := 10) (pc' := 18) rfl rfl rfl ?_
    refine m_iald (i := 11) (pc' := 19) rfl rfl (sh4 G) (by decide) ⟨by omega, by omega⟩ ?_
    refine x_aload_n (i := 12) (pc' := 20) rfl rfl rfl rfl ?_
    refine x_iload (i := 13) (pc' := 22) rfl rfl rfl ?_
    refine x_iload_n (i := 14) (pc' := 23) rfl rfl rfl rfl ?_
    refine x_iload_n (i := 15) (pc' := 24) rfl rfl rfl rfl ?_
    refine m_callV (i := 16) (pc' := 27) (av := [_, _, _]) (rest := [_, _]) rfl rfl (by decide) lX3_92 (sh2 G) rfl rfl rfl rfl rfl (Nat.le_of_ble_eq_true rfl) (Nat.le_refl _) (Nat.le_refl _) (s_X3_gap (by omega) (by omega) (by omega) (h1 _ (by omega) (by omega)) (h2 _ (by omega) (by omega)) ?_)
    dsimp only [psh]
    refine x_imul (i := 17) (pc' := 28) rfl rfl ?_
    refine x_iadd (i := 18) (pc' := 29) rfl rfl ?_
    refine x_istore_n (L' := [some _, some _, some _, some _, some _]) (i := 19) (pc' := 30) rfl rfl rfl rfl (by decide) rfl ?_
    refine x_iinc (L' := [some _, some _, some _, some _, some _]) (i := 20) (pc' := 33) rfl rfl rfl rfl (by decide) rfl ?_
    refine x_goto (i := 21) (pc' := 5) rfl (by decide) ?_
    (first | exact hk | (refine AW.le ?_ hk; simp [lvle]; done) | ((repeat' split at hk) <;> first | exact hk | (refine AW.le ?_ hk; simp [lvle]; done) | (exfalso; omega)))
  · skip
    refine x_iload (i := 4) (pc' := 7) rfl rfl rfl ?_
    refine x_iconst (i := 5) (pc' := 8) rfl rfl ?_
    refine x_icmpge (i := 6) (pc' := 11) (tgt := 36) rfl rfl (by decide) ⟨by omega, by omega⟩ ⟨by omega, by omega⟩ (fun c1 => ?_) (fun c1 => by exfalso; omega)
    refine x_iload_n (i := 22) (pc' := 37) rfl rfl rfl rfl ?_
    exact m_ireturn (i := 23) rfl rfl (hQ)
theorem s_X3_differingParts {G : GG} {m : Mem} {Q : Option Value → Mem → Prop} {a b : Int} (hM : MR m) (ha : 0 ≤ a ∧ a ≤ 16) (hb : 0 ≤ b ∧ b ≤ 16) (hQ : Q (some (.int (J (df m a b)))) m) : CM G 1 mX3_differingParts [.ref (G.2.2.2 2), .int (J (a)), .int (J (b))] m Q := by
  refine CM.of dkX3_differingParts (Or.inl rfl) [some _, some _, some _, none, none] rfl (Nat.le_of_ble_eq_true rfl) ?_
  refine x_iconst (i := 0) (pc' := 1) rfl rfl ?_
  refine x_istore_n (L' := [some _, some _, some _, some _, none]) (i := 1) (pc' := 2) rfl rfl rfl rfl (by decide) rfl ?_
  refine x_iconst (i := 2) (pc' := 3) rfl rfl ?_
  refine x_istore (L' := [some _, some _, some _, some _, some _]) (i := 3) (pc' := 5) rfl rfl rfl (by decide) rfl ?_
  skip
  refine up_ind1 (P := fun (j : Int) (x : Int) => BW G 1 mX3_differingParts Q 5 [some (.ref (G.2.2.2 2)), some (.int (J (a))), some (.int (J (b))), some (.int (J (x))), some (.int (J (j)))] [] m) (fun (j : Int) (x : Int) => if m 3 (a * 5 + j) = m 3 (b * 5 + j) then x else io x (1 * 2 ^ j.toNat)) (fun (j : Int) (x : Int) => 0 ≤ x) (4) (0) (0) (by omega) (by omega) (fun j x hj0 hj hi => by split <;> first | exact hi | exact io_nn _ _) (fun j x hj0 hj hi hk => ?_) (fun hi => ?_)
  · skip
    refine x_iload (i := 4) (pc' := 7) rfl rfl rfl ?_
    refine x_iconst (i := 5) (pc' := 8) rfl rfl ?_
    refine x_icmpge (i := 6) (pc' := 11) (tgt := 41) rfl rfl (by decide) (by first | omega | exact hM _ _) (by first | omega | exact hM _ _) (fun c1 => by exfalso; omega) (fun c1 => ?_)
    refine x_aload_n (i := 7) (pc' := 12) rfl rfl rfl rfl ?_
    refine x_iload_n (i := 8) (pc' := 13) rfl rfl rfl rfl ?_
    refine x_iload (i := 9) (pc' := 15) rfl rfl rfl ?_
    refine m_callV (i := 10) (pc' := 18) (av := [_, _]) (rest := []) rfl rfl (by decide) lX3_59 (sh2 G) rfl rfl rfl rfl rfl (Nat.le_of_ble_eq_true rfl) (Nat.le_refl _) (Nat.le_refl _) (s_X3_trait (by omega) (by omega) ?_)
    dsimp only [psh]
    refine x_aload_n (i := 11) (pc' := 19) rfl rfl rfl rfl ?_
    refine x_iload_n (i := 12) (pc' := 20) rfl rfl rfl rfl ?_
    refine x_iload (i := 13) (pc' := 22) rfl rfl rfl ?_
    refine m_callV (i := 14) (pc' := 25) (av := [_, _]) (rest := [_]) rfl rfl (by decide) lX3_59 (sh2 G) rfl rfl rfl rfl rfl (Nat.le_of_ble_eq_true rfl) (Nat.le_refl _) (Nat.le_refl _) (s_X3_trait (by omega) (by omega) ?_)
    dsimp only [psh]
    refine x_icmpeq (i := 15) (pc' := 28) (tgt := 35) rfl rfl (by decide) (by first | omega | exact hM _ _) (by first | omega | exact hM _ _) (fun c2 => ?_) (fun c2 => ?_)
    · first | (exfalso; omega; done) | skip
      all_goals (
        refine x_iinc (L' := [some _, some _, some _, some _, some _]) (i := 22) (pc' := 38) rfl rfl rfl rfl (by decide) rfl ?_
        refine x_goto (i := 23) (pc' := 5) rfl (by decide) ?_
        (first | exact hk | (refine AW.le ?_ hk; simp [lvle]; done) | ((repeat' split at hk) <;> first | exact hk | (refine AW.le ?_ hk; simp [lvle]; done) | (exfalso; omega)))
        skip)
    · first | (exfalso; omega; done) | skip
      all_goals (
        refine x_iload_n (i := 16) (pc' := 29) rfl rfl rfl rfl ?_
        refine x_iconst (i := 17) (pc' := 30) rfl rfl ?_
        refine x_iload (i := 18) (pc' := 32) rfl rfl rfl ?_
        refine x_ishl (i := 19) (pc' := 33) rfl rfl (by first | omega | (exact Int.mul_nonneg (by omega) (Int.le_of_lt (Int.pow_pos (by omega))))) (by first | omega | (exact Int.mul_nonneg (by omega) (Int.le_of_lt (Int.pow_pos (by omega))))) ?_
        refine x_ior (i := 20) (pc' := 34) rfl rfl (by first | omega | (exact Int.mul_nonneg (by omega) (Int.le_of_lt (Int.pow_pos (by omega))))) (by first | omega | (exact Int.mul_nonneg (by omega) (Int.le_of_lt (Int.pow_pos (by omega))))) ?_
        refine x_istore_n (L' := [some _, some _, some _, some _, some _]) (i := 21) (pc' := 35) rfl rfl rfl rfl (by decide) rfl ?_
        refine x_iinc (L' := [some _, some _, some _, some _, some _]) (i := 22) (pc' := 38) rfl rfl rfl rfl (by decide) rfl ?_
        refine x_goto (i := 23) (pc' := 5) rfl (by decide) ?_
        (first | exact hk | (refine AW.le ?_ hk; simp [lvle]; done) | ((repeat' split at hk) <;> first | exact hk | (refine AW.le ?_ hk; simp [lvle]; done) | (exfalso; omega)))
        skip)
  · skip
    refine x_iload (i := 4) (pc' := 7) rfl rfl rfl ?_
    refine x_iconst (i := 5) (pc' := 8) rfl rfl ?_
    refine x_icmpge (i := 6) (pc' := 11) (tgt := 41) rfl rfl (by decide) ⟨by omega, by omega⟩ ⟨by omega, by omega⟩ (fun c1 => ?_) (fun c1 => by exfalso; omega)
    refine x_iload_n (i := 24) (pc' := 42) rfl rfl rfl rfl ?_
    exact m_ireturn (i := 25) rfl rfl (hQ)
end
section
noncomputable def bp (p : Prop) : Int := @ite Int p (Classical.propDecidable p) 1 0
theorem bp_t {p : Prop} (h : p) : bp p = 1 := if_pos h
theorem bp_f {p : Prop} (h : ¬ p) : bp p = 0 := if_neg h
theorem bp_01 (p : Prop) : bp p = 0 ∨ bp p = 1 := by
  by_cases h : p
  · exact Or.inr (bp_t h)
  · exact Or.inl (bp_f h)
theorem bp_1 {p : Prop} (h : ¬ bp p = 0) : p := by
  by_cases h2 : p
  · exact h2
  · exact absurd (bp_f h2) h
theorem bp_0 {p : Prop} (h : bp p = 0) : ¬ p := fun h2 => by rw [bp_t h2] at h; omega
theorem bp_congr {p q : Prop} (h : p ↔ q) : bp p = bp q := by rw [propext h]
theorem ex_ind {P Z : Int → Prop} (p : Int → Prop) (N j0 : Int) (hj : j0 ≤ N) (hend : Z 0 → P N) (hs : ∀ j, j0 ≤ j → j < N → (p j → Z 1) → (¬ p j → P (j + 1)) → P j) (hz : Z (bp (∃ i, j0 ≤ i ∧ i < N ∧ p i))) : P j0 := by
  have key : ∀ (k : Nat) (j : Int), j + k = N → j0 ≤ j → Z (bp (∃ i, j ≤ i ∧ i < N ∧ p i)) → P j := by
    intro k
    induction k with
    | zero =>
      intro j h h0 hz
      have : j = N := by omega
      subst this
      rw [bp_f (by rintro ⟨i, h1, h2, -⟩; omega)] at hz
      exact hend hz
    | succ k ih =>
      intro j h h0 hz
      refine hs j h0 (by omega) (fun hp => ?_) (fun hp => ih (j + 1) (by omega) (by omega) ?_)
      · rw [bp_t ⟨j, Int.le_refl _, by omega, hp⟩] at hz; exact hz
      · rw [bp_congr (q := ∃ i, j + 1 ≤ i ∧ i < N ∧ p i)] at hz
        · exact hz
        · constructor
          · rintro ⟨i, h1, h2, h3⟩
            have : i ≠ j := fun e => hp (e ▸ h3)
            exact ⟨i, by omega, h2, h3⟩
          · rintro ⟨i, h1, h2, h3⟩
            exact ⟨i, by omega, h2, h3⟩
  exact key (N - j0).toNat j0 (by omega) (Int.le_refl _) hz
theorem all_ind {P Z : Int → Prop} (p : Int → Prop) (N j0 : Int) (hj : j0 ≤ N) (hend : Z 1 → P N) (hs : ∀ j, j0 ≤ j → j < N → (¬ p j → Z 0) → (p j → P (j + 1)) → P j) (hz : Z (bp (∀ i, j0 ≤ i → i < N → p i))) : P j0 := by
  have key : ∀ (k : Nat) (j : Int), j + k = N → j0 ≤ j → Z (bp (∀ i, j ≤ i → i < N → p i)) → P j := by
    intro k
    induction k with
    | zero =>
      intro j h h0 hz
      have : j = N := by omega
      subst this
      rw [bp_t (by intro i h1 h2; omega)] at hz
      exact hend hz
    | succ k ih =>
      intro j h h0 hz
      refine hs j h0 (by omega) (fun hp => ?_) (fun hp => ih (j + 1) (by omega) (by omega) ?_)
      · rw [bp_f (fun h => hp (h j (Int.le_refl _) (by omega)))] at hz; exact hz
      · rw [bp_congr (q := ∀ i, j + 1 ≤ i → i < N → p i)] at hz
        · exact hz
        · constructor
          · intro h i h1 h2; exact h i (by omega) h2
          · intro h i h1 h2
            by_cases e : i = j
            · subst e; exact hp
            · exact h i (by omega) h2
  exact key (N - j0).toNat j0 (by omega) (Int.le_refl _) hz
theorem MR.st {m : Mem} (h : MR m) {q : Nat} {k z : Int} (hz : rg z) : MR (stm m q k z) := by
  intro p j
  unfold stm sr ur
  split
  · dsimp only
    split
    · exact hz
    · exact h q j
  · exact h p j
theorem MR.cp {m : Mem} (h : MR m) {q a b : Nat} {sp dp n : Int} : MR (sr m q (cpr (m a) (m b) sp dp n)) := by
  intro p j
  unfold sr cpr
  split
  · dsimp only
    split
    · exact h _ _
    · exact h _ _
  · exact h _ _
theorem stm_back (m : Mem) (q : Nat) (k z : Int) : stm (stm m q k z) q k (m q k) = m := by
  funext p j
  unfold stm sr ur
  by_cases h : p = q
  · subst h
    simp only [if_true]
    split
    · next h => rw [h]
    · rfl
  · simp only [if_neg h]
def he (m : Mem) (a : Int) : Prop := ∃ i, 0 ≤ i ∧ i < m 2 2 ∧ (i ≠ a ∧ df m i a = 0)
def askm (m : Mem) (h p q f : Int) : Mem := stm (stm (stm (stm m 3 (16 * 5 + 0) h) 3 (16 * 5 + 1) p) 3 (16 * 5 + 2) q) 3 (16 * 5 + 3) f
def apm (m : Mem) : Mem := stm (sr m 3 (cpr (m 3) (m 3) 80 (m 2 2 * 5) 5)) 2 2 (m 2 2 + 1)
def CN (m : Mem) : Prop := 0 ≤ m 2 2 ∧ m 2 2 ≤ 16
theorem df_nn (m : Mem) (a b : Int) : 0 ≤ df m a b ∧ df m a b < 65536 := by
  have h : ∀ x : Int, ∀ p : Nat, p < 4 → 0 ≤ x ∧ x < 16 → 0 ≤ io x (1 * 2 ^ p) ∧ io x (1 * 2 ^ p) < 16 := by
    intro x p hp hx
    have h1 := Nat.or_lt_two_pow (n := 4) (x := x.toNat) (y := ((1 : Int) * 2 ^ p).toNat) (by omega) (by
      rcases (by omega : p = 0 ∨ p = 1 ∨ p = 2 ∨ p = 3) with rfl | rfl | rfl | rfl <;> decide)
    unfold io
    omega
  have k : ∀ (c : Prop) [Decidable c] (x : Int) (p : Nat), p < 4 → 0 ≤ x ∧ x < 16 → 0 ≤ (if c then x else io x (1 * 2 ^ p)) ∧ (if c then x else io x (1 * 2 ^ p)) < 16 := by
    intro c _ x p hp hx
    split
    · exact hx
    · exact h x p hp hx
  have r := k (m 3 (a * 5 + 3) = m 3 (b * 5 + 3)) _ 3 (by omega) (k (m 3 (a * 5 + 2) = m 3 (b * 5 + 2)) _ 2 (by omega) (k (m 3 (a * 5 + 1) = m 3 (b * 5 + 1)) _ 1 (by omega) (k (m 3 (a * 5 + 0) = m 3 (b * 5 + 0)) 0 0 (by omega) (by omega))))
  have e : df m a b < 16 ∧ 0 ≤ df m a b := ⟨r.2, r.1⟩
  omega
theorem s_X3_holds {G : GG} {m : Mem} {Q : Option Value → Mem → Prop} {a : Int} (hn : CN m) (ha : rg a) (hQ : Q (some (.int (J (if 0 ≤ a ∧ a < m 2 2 then 1 else 0)))) m) : CM G 1 mX3_holds [.ref (G.2.2.2 2), .int (J (a))] m Q := by
  refine CM.of dkX3_holds (Or.inl rfl) [some _, some _] rfl (Nat.le_of_ble_eq_true rfl) ?_
  have hn0 := hn.1; have hn1 := hn.2
  refine x_iload_n (i := 0) (pc' := 1) rfl rfl rfl rfl ?_
  refine x_iconst (i := 1) (pc' := 2) rfl rfl ?_
  refine x_aload_n (i := 2) (pc' := 3) rfl rfl rfl rfl ?_
  refine m_getf (i := 3) (pc' := 6) rfl rfl flX3_18 (sh2 G) rfl rfl ?_
  refine x_iconst (i := 4) (pc' := 7) rfl rfl ?_
  refine x_isub (i := 5) (pc' := 8) rfl rfl ?_
  refine m_callS (i := 6) (pc' := 11) (av := [_, _, _]) (rest := []) rfl rfl (by decide) lX3_28 rfl rfl (Nat.le_of_ble_eq_true rfl) (Nat.le_refl _) (Nat.le_refl _) (s_X11_isWithin (by omega) (by omega) (by omega) ?_)
  dsimp only [psh]
  exact m_zreturn (i := 7) rfl rfl (by split <;> omega) (by (repeat' split at hQ) <;> (repeat' split) <;> first | exact hQ | (exfalso; omega))
theorem s_X3_setTrait {G : GG} {m : Mem} {Q : Option Value → Mem → Prop} {a b v : Int} (ha : 0 ≤ a ∧ a ≤ 16) (hb : 0 ≤ b ∧ b ≤ 4) (hQ : Q none (stm m 3 (a * 5 + b) v)) : CM G 1 mX3_setTrait [.ref (G.2.2.2 2), .int (J (a)), .int (J (b)), .int (J (v))] m Q := by
  refine CM.of dkX3_setTrait (Or.inl rfl) [some _, some _, some _, some _] rfl (Nat.le_of_ble_eq_true rfl) ?_
  have e1 : (if 0 ≤ a ∧ a ≤ 16 then 1 else 0 : Int) = 1 := if_pos ha
  have e2 : (if 0 ≤ b ∧ b ≤ 4 then 1 else 0 : Int) = 1 := if_pos hb
  refine x_iload_n (i := 0) (pc' := 1) rfl rfl rfl rfl ?_
  refine x_iconst (i := 1) (pc' := 2) rfl rfl ?_
  refine x_bipush (i := 2) (pc' := 4) rfl rfl (by decide) ?_
  refine m_callS (i := 3) (pc' := 7) (av := [_, _, _]) (rest := []) rfl rfl (by decide) lX3_28 rfl rfl (Nat.le_of_ble_eq_true rfl) (Nat.le_refl _) (Nat.le_refl _) (s_X11_isWithin (by omega) (by omega) (by omega) ?_)
  dsimp only [psh]
  refine x_ifeq (i := 4) (pc' := 10) (tgt := 30) rfl rfl (by decide) ⟨by omega, by omega⟩ (fun c1 => ?_) (fun c1 => ?_)
  · first | (exfalso; omega; done) | skip
    all_goals (
      exact m_return (i := 19) rfl rfl (hQ)
      skip)
  · first | (exfalso; omega; done) | skip
    all_goals (
      refine x_iload_n (i := 5) (pc' := 11) rfl rfl rfl rfl ?_
      refine x_iconst (i := 6) (pc' := 12) rfl rfl ?_
      refine x_iconst (i := 7) (pc' := 13) rfl rfl ?_
      refine m_callS (i := 8) (pc' := 16) (av := [_, _, _]) (rest := []) rfl rfl (by decide) lX3_28 rfl rfl (Nat.le_of_ble_eq_true rfl) (Nat.le_refl _) (Nat.le_refl _) (s_X11_isWithin (by omega) (by omega) (by omega) ?_)
      dsimp only [psh]
      refine x_ifeq (i := 9) (pc' := 19) (tgt := 30) rfl rfl (by decide) ⟨by omega, by omega⟩ (fun c2 => ?_) (fun c2 => ?_)
      · first | (exfalso; omega; done) | skip
        all_goals (
          exact m_return (i := 19) rfl rfl (hQ)
          skip)
      · first | (exfalso; omega; done) | skip
        all_goals (
          refine x_aload_n (i := 10) (pc' := 20) rfl rfl rfl rfl ?_
          refine m_getf (i := 11) (pc' := 23) rfl rfl flX3_9 (sh2 G) rfl rfl ?_
          refine x_iload_n (i := 12) (pc' := 24) rfl rfl rfl rfl ?_
          refine x_iconst (i := 13) (pc' := 25) rfl rfl ?_
          refine x_imul (i := 14) (pc' := 26) rfl rfl ?_
          refine x_iload_n (i := 15) (pc' := 27) rfl rfl rfl rfl ?_
          refine x_iadd (i := 16) (pc' := 28) rfl rfl ?_
          refine x_iload_n (i := 17) (pc' := 29) rfl rfl rfl rfl ?_
          refine m_iast (i := 18) (pc' := 30) rfl rfl (sh3 G) (by decide) ⟨by omega, by omega⟩ ?_
          exact m_return (i := 19) rfl rfl (hQ)
          skip)
      skip)
theorem s_X3_weightOf {G : GG} {m : Mem} {Q : Option Value → Mem → Prop} {a : Int} (ha : 0 ≤ a ∧ a ≤ 3) (hQ : Q (some (.int (J (m 4 a)))) m) : CM G 1 mX3_weightOf [.ref (G.2.2.2 2), .int (J (a))] m Q := by
  refine CM.of dkX3_weightOf (Or.inl rfl) [some _, some _] rfl (Nat.le_of_ble_eq_true rfl) ?_
  have e1 : (if 0 ≤ a ∧ a ≤ 3 then 1 else 0 : Int) = 1 := if_pos ha
  refine x_iload_n (i := 0) (pc' := 1) rfl rfl rfl rfl ?_
  refine x_iconst (i := 1) (pc' := 2) rfl rfl ?_
  refine x_iconst (i := 2) (pc' := 3) rfl rfl ?_
  refine m_callS (i := 3) (pc' := 6) (av := [_, _, _]) (rest := []) rfl rfl (by decide) lX3_28 rfl rfl (Nat.le_of_ble_eq_true rfl) (Nat.le_refl _) (Nat.le_refl _) (s_X11_isWithin (by omega) (by omega) (by omega) ?_)
  dsimp only [psh]
  refine x_ifeq (i := 4) (pc' := 9) (tgt := 18) rfl rfl (by decide) ⟨by omega, by omega⟩ (fun c1 => ?_) (fun c1 => ?_)
  · first | (exfalso; omega; done) | skip
    all_goals (
      refine x_iconst (i := 10) (pc' := 19) rfl rfl ?_
      exact m_ireturn (i := 11) rfl rfl (hQ)
      skip)
  · first | (exfalso; omega; done) | skip
    all_goals (
      refine x_aload_n (i := 5) (pc' := 10) rfl rfl rfl rfl ?_
      refine m_getf (i := 6) (pc' := 13) rfl rfl flX3_15 (sh2 G) rfl rfl ?_
      refine x_iload_n (i := 7) (pc' := 14) rfl rfl rfl rfl ?_
      refine m_iald (i := 8) (pc' := 15) rfl rfl (sh4 G) (by decide) ⟨by omega, by omega⟩ ?_
      refine x_goto (i := 9) (pc' := 19) rfl (by decide) ?_
      exact m_ireturn (i := 11) rfl rfl (hQ)
      skip)
theorem s_X3_setWeight {G : GG} {m : Mem} {Q : Option Value → Mem → Prop} {a b : Int} (ha : rg a) (hb : rg b) (hQ1 : ¬ ((0 ≤ a ∧ a ≤ 3) ∧ (0 ≤ b ∧ b ≤ 5)) → Q (some (.int (J (-2)))) m) (hQ2 : (0 ≤ a ∧ a ≤ 3) ∧ (0 ≤ b ∧ b ≤ 5) → Q (some (.int (J (m 4 a)))) (stm m 4 a b))  : CM G 1 mX3_setWeight [.ref (G.2.2.2 2), .int (J (a)), .int (J (b))] m Q := by
  refine CM.of dkX3_setWeight (Or.inl rfl) [some _, some _, some _, none] rfl (Nat.le_of_ble_eq_true rfl) ?_
  refine x_iload_n (i := 0) (pc' := 1) rfl rfl rfl rfl ?_
  refine x_iconst (i := 1) (pc' := 2) rfl rfl ?_
  refine x_iconst (i := 2) (pc' := 3) rfl rfl ?_
  refine m_callS (i := 3) (pc' := 6) (av := [_, _, _]) (rest := []) rfl rfl (by decide) lX3_28 rfl rfl (Nat.le_of_ble_eq_true rfl) (Nat.le_refl _) (Nat.le_refl _) (s_X11_isWithin (by omega) (by omega) (by omega) ?_)
  dsimp only [psh]
  refine x_ifeq (i := 4) (pc' := 9) (tgt := 18) rfl rfl (by decide) (by (repeat' split) <;> omega) (fun c1 => ?_) (fun c1 => ?_)
  · first | (exfalso; (repeat' split at *) <;> omega; done) | skip
    all_goals (
      refine x_bipush (i := 10) (pc' := 20) rfl rfl (by decide) ?_
      exact m_ireturn (i := 11) rfl rfl (by first | exact hQ1 (by (repeat' split at *) <;> omega) | exact hQ2 (by (repeat' split at *) <;> omega))
      skip)
  · first | (exfalso; (repeat' split at *) <;> omega; done) | skip
    all_goals (
      refine x_iload_n (i := 5) (pc' := 10) rfl rfl rfl rfl ?_
      refine x_iconst (i := 6) (pc' := 11) rfl rfl ?_
      refine x_iconst (i := 7) (pc' := 12) rfl rfl ?_
      refine m_callS (i := 8) (pc' := 15) (av := [_, _, _]) (rest := []) rfl rfl (by decide) lX3_28 rfl rfl (Nat.le_of_ble_eq_true rfl) (Nat.le_refl _) (Nat.le_refl _) (s_X11_isWithin (by omega) (by omega) (by omega) ?_)
      dsimp only [psh]
      refine x_ifne (i := 9) (pc' := 18) (tgt := 21) rfl rfl (by decide) (by (repeat' split) <;> omega) (fun c2 => ?_) (fun c2 => ?_)
      · first | (exfalso; (repeat' split at *) <;> omega; done) | skip
        all_goals (
          refine x_aload_n (i := 12) (pc' := 22) rfl rfl rfl rfl ?_
          refine m_getf (i := 13) (pc' := 25) rfl rfl flX3_15 (sh2 G) rfl rfl ?_
          refine x_iload_n (i := 14) (pc' := 26) rfl rfl rfl rfl ?_
          refine m_iald (i := 15) (pc' := 27) rfl rfl (sh4 G) (by decide) ⟨by (repeat' split at *) <;> omega, by (repeat' split at *) <;> omega⟩ ?_
          refine x_istore_n (L' := [some _, some _, some _, some _]) (i := 16) (pc' := 28) rfl rfl rfl rfl (by decide) rfl ?_
          refine x_aload_n (i := 17) (pc' := 29) rfl rfl rfl rfl ?_
          refine m_getf (i := 18) (pc' := 32) rfl rfl flX3_15 (sh2 G) rfl rfl ?_
          refine x_iload_n (i := 19) (pc' := 33) rfl rfl rfl rfl ?_
          refine x_iload_n (i := 20) (pc' := 34) rfl rfl rfl rfl ?_
          refine m_iast (i := 21) (pc' := 35) rfl rfl (sh4 G) (by decide) ⟨by (repeat' split at *) <;> omega, by (repeat' split at *) <;> omega⟩ ?_
          refine x_iload_n (i := 22) (pc' := 36) rfl rfl rfl rfl ?_
          exact m_ireturn (i := 23) rfl rfl (by first | exact hQ1 (by (repeat' split at *) <;> omega) | exact hQ2 (by (repeat' split at *) <;> omega))
          skip)
      · first | (exfalso; (repeat' split at *) <;> omega; done) | skip
        all_goals (
          refine x_bipush (i := 10) (pc' := 20) rfl rfl (by decide) ?_
          exact m_ireturn (i := 11) rfl rfl (by first | exact hQ1 (by (repeat' split at *) <;> omega) | exact hQ2 (by (repeat' split at *) <;> omega))
          skip)
      skip)
theorem s_X3_ask {G : GG} {m : Mem} {Q : Option Value → Mem → Prop} {h p q f : Int}  (hQ : Q none (askm m h p q f)) : CM G 2 mX3_ask [.ref (G.2.2.2 2), .int (J (h)), .int (J (p)), .int (J (q)), .int (J (f))] m Q := by
  refine CM.of dkX3_ask (Or.inl rfl) [some _, some _, some _, some _, some _] rfl (Nat.le_of_ble_eq_true rfl) ?_
  refine x_aload_n (i := 0) (pc' := 1) rfl rfl rfl rfl ?_
  refine x_bipush (i := 1) (pc' := 3) rfl rfl (by decide) ?_
  refine x_iconst (i := 2) (pc' := 4) rfl rfl ?_
  refine x_iload_n (i := 3) (pc' := 5) rfl rfl rfl rfl ?_
  refine m_callV (i := 4) (pc' := 8) (av := [_, _, _]) (rest := []) rfl rfl (by decide) lX3_32 (sh2 G) rfl rfl rfl rfl rfl (Nat.le_of_ble_eq_true rfl) (Nat.le_refl _) (Nat.le_refl _) (s_X3_setTrait (by omega) (by omega) ?_)
  dsimp only [psh]
  refine x_aload_n (i := 5) (pc' := 9) rfl rfl rfl rfl ?_
  refine x_bipush (i := 6) (pc' := 11) rfl rfl (by decide) ?_
  refine x_iconst (i := 7) (pc' := 12) rfl rfl ?_
  refine x_iload_n (i := 8) (pc' := 13) rfl rfl rfl rfl ?_
  refine m_callV (i := 9) (pc' := 16) (av := [_, _, _]) (rest := []) rfl rfl (by decide) lX3_32 (sh2 G) rfl rfl rfl rfl rfl (Nat.le_of_ble_eq_true rfl) (Nat.le_refl _) (Nat.le_refl _) (s_X3_setTrait (by omega) (by omega) ?_)
  dsimp only [psh]
  refine x_aload_n (i := 10) (pc' := 17) rfl rfl rfl rfl ?_
  refine x_bipush (i := 11) (pc' := 19) rfl rfl (by decide) ?_
  refine x_iconst (i := 12) (pc' := 20) rfl rfl ?_
  refine x_iload_n (i := 13) (pc' := 21) rfl rfl rfl rfl ?_
  refine m_callV (i := 14) (pc' := 24) (av := [_, _, _]) (rest := []) rfl rfl (by decide) lX3_32 (sh2 G) rfl rfl rfl rfl rfl (Nat.le_of_ble_eq_true rfl) (Nat.le_refl _) (Nat.le_refl _) (s_X3_setTrait (by omega) (by omega) ?_)
  dsimp only [psh]
  refine x_aload_n (i := 15) (pc' := 25) rfl rfl rfl rfl ?_
  refine x_bipush (i := 16) (pc' := 27) rfl rfl (by decide) ?_
  refine x_iconst (i := 17) (pc' := 28) rfl rfl ?_
  refine x_iload (i := 18) (pc' := 30) rfl rfl rfl ?_
  refine m_callV (i := 19) (pc' := 33) (av := [_, _, _]) (rest := []) rfl rfl (by decide) lX3_32 (sh2 G) rfl rfl rfl rfl rfl (Nat.le_of_ble_eq_true rfl) (Nat.le_refl _) (Nat.le_refl _) (s_X3_setTrait (by omega) (by omega) ?_)
  dsimp only [psh]
  exact m_return (i := 20) rfl rfl (hQ)
theorem s_X3_hasEqual {G : GG} {m : Mem} {Q : Option Value → Mem → Prop} {a : Int} (hM : MR m) (hn : CN m) (ha : 0 ≤ a ∧ a ≤ 16) (hQ : Q (some (.int (J (bp (he m a))))) m) : CM G 2 mX3_hasEqual [.ref (G.2.2.2 2), .int (J (a))] m Q := by
  refine CM.of dkX3_hasEqual (Or.inl rfl) [some _, some _, none] rfl (Nat.le_of_ble_eq_true rfl) ?_
  have hn0 := hn.1; have hn1 := hn.2
  refine x_iconst (i := 0) (pc' := 1) rfl rfl ?_
  refine x_istore_n (L' := [some _, some _, some _]) (i := 1) (pc' := 2) rfl rfl rfl rfl (by decide) rfl ?_
  skip
  refine ex_ind (P := fun j => BW G 2 mX3_hasEqual Q 2 [some (.ref (G.2.2.2 2)), some (.int (J (a))), some (.int (J (j)))] [] m) (Z := fun r => Q (some (.int (J r))) m) (fun i => i ≠ a ∧ df m i a = 0) (m 2 2) 0 (by omega) (fun hz => ?_) (fun j hj0 hj h1 h2 => ?_) hQ
  · skip
    refine x_iload_n (i := 2) (pc' := 3) rfl rfl rfl rfl ?_
    refine x_aload_n (i := 3) (pc' := 4) rfl rfl rfl rfl ?_
    refine m_getf (i := 4) (pc' := 7) rfl rfl flX3_18 (sh2 G) rfl rfl ?_
    refine x_icmpge (i := 5) (pc' := 10) (tgt := 32) rfl rfl (by decide) ⟨by omega, by omega⟩ ⟨by omega, by omega⟩ (fun c1 => ?_) (fun c1 => by exfalso; omega)
    refine x_iconst (i := 18) (pc' := 33) rfl rfl ?_
    exact m_zreturn (i := 19) rfl rfl (by omega) (hz)
  · have hdf := df_nn m j a
    refine x_iload_n (i := 2) (pc' := 3) rfl rfl rfl rfl ?_
    refine x_aload_n (i := 3) (pc' := 4) rfl rfl rfl rfl ?_
    refine m_getf (i := 4) (pc' := 7) rfl rfl flX3_18 (sh2 G) rfl rfl ?_
    refine x_icmpge (i := 5) (pc' := 10) (tgt := 32) rfl rfl (by decide) ⟨by omega, by omega⟩ ⟨by omega, by omega⟩ (fun c1 => by exfalso; omega) (fun c1 => ?_)
    refine x_iload_n (i := 6) (pc' := 11) rfl rfl rfl rfl ?_
    refine x_iload_n (i := 7) (pc' := 12) rfl rfl rfl rfl ?_
    refine x_icmpeq (i := 8) (pc' := 15) (tgt := 26) rfl rfl (by decide) ⟨by omega, by omega⟩ ⟨by omega, by omega⟩ (fun c2 => ?_) (fun c2 => ?_)
    · first | (exfalso; omega; done) | skip
      all_goals (
        refine x_iinc (L' := [some _, some _, some _]) (i := 16) (pc' := 29) rfl rfl rfl rfl (by decide) rfl ?_
        refine x_goto (i := 17) (pc' := 2) rfl (by decide) ?_
        exact h2 (by omega)
        skip)
    · first | (exfalso; omega; done) | skip
      all_goals (
        refine x_aload_n (i := 9) (pc' := 16) rfl rfl rfl rfl ?_
        refine x_iload_n (i := 10) (pc' := 17) rfl rfl rfl rfl ?_
        refine x_iload_n (i := 11) (pc' := 18) rfl rfl rfl rfl ?_
        refine m_callV (i := 12) (pc' := 21) (av := [_, _]) (rest := []) rfl rfl (by decide) lX3_52 (sh2 G) rfl rfl rfl rfl rfl (Nat.le_of_ble_eq_true rfl) (Nat.le_refl _) (Nat.le_refl _) (s_X3_differingParts hM (by omega) (by omega) ?_)
        dsimp only [psh]
        refine x_ifne (i := 13) (pc' := 24) (tgt := 26) rfl rfl (by decide) ⟨by omega, by omega⟩ (fun c3 => ?_) (fun c3 => ?_)
        · first | (exfalso; omega; done) | skip
          all_goals (
            refine x_iinc (L' := [some _, some _, some _]) (i := 16) (pc' := 29) rfl rfl rfl rfl (by decide) rfl ?_
            refine x_goto (i := 17) (pc' := 2) rfl (by decide) ?_
            exact h2 (by omega)
            skip)
        · first | (exfalso; omega; done) | skip
          all_goals (
            refine x_iconst (i := 14) (pc' := 25) rfl rfl ?_
            exact m_zreturn (i := 15) rfl rfl (by omega) (h1 (by omega))
            skip)
        skip)
end
section
theorem apm_n (m : Mem) : apm m 2 2 = m 2 2 + 1 := by simp [apm, stm, sr, ur]
theorem MR.ask {m : Mem} (hM : MR m) {h p q f : Int} (h1 : rg h) (h2 : rg p) (h3 : rg q) (h4 : rg f) : MR (askm m h p q f) := (((hM.st h1).st h2).st h3).st h4
noncomputable def apr (m : Mem) : Int := if bp (he m 16) = 0 then (if m 2 2 < 16 then m 2 2 else -4) else -3
noncomputable def apx (m : Mem) : Mem := if bp (he m 16) = 0 ∧ m 2 2 < 16 then apm m else m
theorem apr_rg {m : Mem} (h : CN m) : -4 ≤ apr m ∧ apr m ≤ 15 := by
  have h1 := h.1
  unfold apr
  (repeat' split) <;> omega
theorem MR.ap {m : Mem} (hM : MR m) (h : CN m) : MR (apx m) := by
  have h1 := h.1
  unfold apx apm
  split
  · exact hM.cp.st (by omega)
  · exact hM
theorem CN.ap {m : Mem} (h : CN m) : CN (apx m) := by
  have h1 := h.1; have h2 := h.2
  unfold CN apx
  split
  · rw [apm_n]; omega
  · exact h
noncomputable def adr (m : Mem) (h p q f s : Int) : Int := if ((0 ≤ h ∧ h ≤ 7) ∧ (0 ≤ p ∧ p ≤ 7) ∧ (0 ≤ q ∧ q ≤ 7) ∧ (0 ≤ f ∧ f ≤ 7)) ∧ (0 ≤ s ∧ s ≤ 3) then apr (stm (askm m h p q f) 3 84 s) else -2
noncomputable def adx (m : Mem) (h p q f s : Int) : Mem := if ((0 ≤ h ∧ h ≤ 7) ∧ (0 ≤ p ∧ p ≤ 7) ∧ (0 ≤ q ∧ q ≤ 7) ∧ (0 ≤ f ∧ f ≤ 7)) ∧ (0 ≤ s ∧ s ≤ 3) then apx (stm (askm m h p q f) 3 84 s) else m
noncomputable def chr (m : Mem) (k w v : Int) : Int := if (0 ≤ k ∧ k < m 2 2) ∧ (0 ≤ w ∧ w ≤ 4) ∧ (0 ≤ v ∧ v ≤ (if w = 4 then 3 else 7)) then (if bp (he (stm m 3 (k * 5 + w) v) k) = 0 then m 3 (k * 5 + w) else -3) else -2
noncomputable def chx (m : Mem) (k w v : Int) : Mem := if ((0 ≤ k ∧ k < m 2 2) ∧ (0 ≤ w ∧ w ≤ 4) ∧ (0 ≤ v ∧ v ≤ (if w = 4 then 3 else 7))) ∧ bp (he (stm m 3 (k * 5 + w) v) k) = 0 then stm m 3 (k * 5 + w) v else m
def rmm (m : Mem) (k : Int) : Mem := stm (sr m 3 (cpr (m 3) (m 3) ((k + 1) * 5) (k * 5) ((m 2 2 - 1 - k) * 5))) 2 2 (m 2 2 - 1)
def cs (m : Mem) (s : Int) : Int := it (fun k x => if m 3 (k * 5 + 4) = s then x + 1 else x) 0 (m 2 2).toNat 0
theorem rmm_n (m : Mem) (k : Int) : rmm m k 2 2 = m 2 2 - 1 := by simp [rmm, stm, sr, ur]
theorem s_X3_appendAsked {G : GG} {m : Mem} {Q : Option Value → Mem → Prop} (hM : MR m) (hn : CN m) (hQ : Q (some (.int (J (apr m)))) (apx m)) : CM G 3 mX3_appendAsked [.ref (G.2.2.2 2)] m Q := by
  refine CM.of dkX3_appendAsked (Or.inl rfl) [some _] rfl (Nat.le_of_ble_eq_true rfl) ?_
  have hn0 := hn.1; have hn1 := hn.2
  have hb := bp_01 (he m 16)
  refine x_aload_n (i := 0) (pc' := 1) rfl rfl rfl rfl ?_
  refine x_bipush (i := 1) (pc' := 3) rfl rfl (by decide) ?_
  refine m_callV (i := 2) (pc' := 6) (av := [_]) (rest := []) rfl rfl (by decide) lX3_48 (sh2 G) rfl rfl rfl rfl rfl (Nat.le_of_ble_eq_true rfl) (Nat.le_refl _) (Nat.le_refl _) (s_X3_hasEqual hM hn (by omega) ?_)
  dsimp only [psh]
  refine x_ifeq (i := 3) (pc' := 9) (tgt := 12) rfl rfl (by decide) ⟨by omega, by omega⟩ (fun c1 => ?_) (fun c1 => ?_)
  · skip
    refine x_aload_n (i := 6) (pc' := 13) rfl rfl rfl rfl ?_
    refine m_getf (i := 7) (pc' := 16) rfl rfl flX3_18 (sh2 G) rfl rfl ?_
    refine x_bipush (i := 8) (pc' := 18) rfl rfl (by decide) ?_
    refine x_icmplt (i := 9) (pc' := 21) (tgt := 24) rfl rfl (by decide) ⟨by omega, by omega⟩ ⟨by omega, by omega⟩ (fun c2 => ?_) (fun c2 => ?_)
    · skip
      refine x_aload_n (i := 12) (pc' := 25) rfl rfl rfl rfl ?_
      refine m_getf (i := 13) (pc' := 28) rfl rfl flX3_9 (sh2 G) rfl rfl ?_
      refine x_bipush (i := 14) (pc' := 30) rfl rfl (by decide) ?_
      refine x_aload_n (i := 15) (pc' := 31) rfl rfl rfl rfl ?_
      refine m_getf (i := 16) (pc' := 34) rfl rfl flX3_9 (sh2 G) rfl rfl ?_
      refine x_aload_n (i := 17) (pc' := 35) rfl rfl rfl rfl ?_
      refine m_getf (i := 18) (pc' := 38) rfl rfl flX3_18 (sh2 G) rfl rfl ?_
      refine x_iconst (i := 19) (pc' := 39) rfl rfl ?_
      refine x_imul (i := 20) (pc' := 40) rfl rfl ?_
      refine x_iconst (i := 21) (pc' := 41) rfl rfl ?_
      refine m_copy (i := 22) (pc' := 44) rfl rfl (by decide) acX3_22 (sh3 G) (sh3 G) (by decide) (by decide) (by first | omega | (show _ ≤ ((85 : Nat) : Int); omega)) (by first | omega | (show _ ≤ ((85 : Nat) : Int); omega)) (by first | omega | (show _ ≤ ((85 : Nat) : Int); omega)) (by first | omega | (show _ ≤ ((85 : Nat) : Int); omega)) (by first | omega | (show _ ≤ ((85 : Nat) : Int); omega)) (Nat.le_of_ble_eq_true rfl) ac_n ac_s ac_i ?_
      refine x_aload_n (i := 23) (pc' := 45) rfl rfl rfl rfl ?_
      refine x_dup (i := 24) (pc' := 46) rfl rfl rfl ?_
      refine m_getf (i := 25) (pc' := 49) rfl rfl flX3_18 (sh2 G) rfl rfl ?_
      refine x_iconst (i := 26) (pc' := 50) rfl rfl ?_
      refine x_iadd (i := 27) (pc' := 51) rfl rfl ?_
      refine m_putf (kz := 2) (i := 28) (pc' := 54) rfl rfl flX3_18 (sh2 G) (fun _ => rfl) rfl (Nat.le_of_ble_eq_true rfl) rfl rfl ?_
      refine x_aload_n (i := 29) (pc' := 55) rfl rfl rfl rfl ?_
      refine m_getf (i := 30) (pc' := 58) rfl rfl flX3_18 (sh2 G) rfl rfl ?_
      refine x_iconst (i := 31) (pc' := 59) rfl rfl ?_
      refine x_isub (i := 32) (pc' := 60) rfl rfl ?_
      exact m_ireturn (i := 33) rfl rfl (by unfold apr apx at hQ; (repeat' split at hQ) <;> first | exact hQ | (exfalso; omega) | (have e9 : m 2 2 = apm m 2 2 - 1 := (by rw [apm_n]; omega); rw [e9] at hQ; exact hQ))
    · skip
      refine x_bipush (i := 10) (pc' := 23) rfl rfl (by decide) ?_
      exact m_ireturn (i := 11) rfl rfl (by unfold apr apx at hQ; (repeat' split at hQ) <;> first | exact hQ | (exfalso; omega) | (have e9 : m 2 2 = apm m 2 2 - 1 := (by rw [apm_n]; omega); rw [e9] at hQ; exact hQ))
  · skip
    refine x_bipush (i := 4) (pc' := 11) rfl rfl (by decide) ?_
    exact m_ireturn (i := 5) rfl rfl (by unfold apr apx at hQ; (repeat' split at hQ) <;> first | exact hQ | (exfalso; omega) | (have e9 : m 2 2 = apm m 2 2 - 1 := (by rw [apm_n]; omega); rw [e9] at hQ; exact hQ))
theorem s_X3_addSign {G : GG} {m : Mem} {Q : Option Value → Mem → Prop} {h p q f s : Int} (hM : MR m) (hn : CN m) (h1 : rg h) (h2 : rg p) (h3 : rg q) (h4 : rg f) (h5 : rg s) (hQ : Q (some (.int (J (adr m h p q f s)))) (adx m h p q f s)) : CM G 4 mX3_addSign [.ref (G.2.2.2 2), .int (J (h)), .int (J (p)), .int (J (q)), .int (J (f)), .int (J (s))] m Q := by
  refine CM.of dkX3_addSign (Or.inl rfl) [some _, some _, some _, some _, some _, some _] rfl (Nat.le_of_ble_eq_true rfl) ?_
  refine x_iload_n (i := 0) (pc' := 1) rfl rfl rfl rfl ?_
  refine x_iload_n (i := 1) (pc' := 2) rfl rfl rfl rfl ?_
  refine x_iload_n (i := 2) (pc' := 3) rfl rfl rfl rfl ?_
  refine x_iload (i := 3) (pc' := 5) rfl rfl rfl ?_
  refine x_iconst (i := 4) (pc' := 6) rfl rfl ?_
  refine m_callS (i := 5) (pc' := 9) (av := [_, _, _, _, _]) (rest := []) rfl rfl (by decide) lX3_36 rfl rfl (Nat.le_of_ble_eq_true rfl) (Nat.le_refl _) (Nat.le_refl _) (s_X11_areWithin h1 h2 h3 h4 (by omega) ?_)
  dsimp only [psh]
  refine x_ifeq (i := 6) (pc' := 12) (tgt := 22) rfl rfl (by decide) (by (repeat' split) <;> omega) (fun c1 => ?_) (fun c1 => ?_)
  · skip
    refine x_bipush (i := 12) (pc' := 24) rfl rfl (by decide) ?_
    exact m_ireturn (i := 13) rfl rfl (by unfold adr adx at hQ; (repeat' split at hQ) <;> first | exact hQ | (exfalso; omega))
  · skip
    refine x_iload (i := 7) (pc' := 14) rfl rfl rfl ?_
    refine x_iconst (i := 8) (pc' := 15) rfl rfl ?_
    refine x_iconst (i := 9) (pc' := 16) rfl rfl ?_
    refine m_callS (i := 10) (pc' := 19) (av := [_, _, _]) (rest := []) rfl rfl (by decide) lX3_28 rfl rfl (Nat.le_of_ble_eq_true rfl) (Nat.le_refl _) (Nat.le_refl _) (s_X11_isWithin h5 (by omega) (by omega) ?_)
    dsimp only [psh]
    refine x_ifne (i := 11) (pc' := 22) (tgt := 25) rfl rfl (by decide) (by (repeat' split) <;> omega) (fun c2 => ?_) (fun c2 => ?_)
    · skip
      refine x_aload_n (i := 14) (pc' := 26) rfl rfl rfl rfl ?_
      refine x_iload_n (i := 15) (pc' := 27) rfl rfl rfl rfl ?_
      refine x_iload_n (i := 16) (pc' := 28) rfl rfl rfl rfl ?_
      refine x_iload_n (i := 17) (pc' := 29) rfl rfl rfl rfl ?_
      refine x_iload (i := 18) (pc' := 31) rfl rfl rfl ?_
      refine m_callV (i := 19) (pc' := 34) (av := [_, _, _, _]) (rest := []) rfl rfl (by decide) lX3_40 (sh2 G) rfl rfl rfl rfl rfl (Nat.le_of_ble_eq_true rfl) (Nat.le_refl _) (Nat.le_refl _) (s_X3_ask ?_)
      dsimp only [psh]
      refine x_aload_n (i := 20) (pc' := 35) rfl rfl rfl rfl ?_
      refine x_bipush (i := 21) (pc' := 37) rfl rfl (by decide) ?_
      refine x_iconst (i := 22) (pc' := 38) rfl rfl ?_
      refine x_iload (i := 23) (pc' := 40) rfl rfl rfl ?_
      refine m_callV (i := 24) (pc' := 43) (av := [_, _, _]) (rest := []) rfl rfl (by decide) lX3_32 (sh2 G) rfl rfl rfl rfl rfl (Nat.le_of_ble_eq_true rfl) (Nat.le_refl _) (Nat.le_refl _) (s_X3_setTrait (by omega) (by omega) ?_)
      dsimp only [psh]
      refine x_aload_n (i := 25) (pc' := 44) rfl rfl rfl rfl ?_
      refine m_callV (i := 26) (pc' := 47) (av := []) (rest := []) rfl rfl (by decide) lX3_44 (sh2 G) rfl rfl rfl rfl rfl (Nat.le_of_ble_eq_true rfl) (Nat.le_refl _) (Nat.le_refl _) (s_X3_appendAsked ((hM.ask h1 h2 h3 h4).st h5) hn ?_)
      dsimp only [psh]
      exact m_ireturn (i := 27) rfl rfl (by unfold adr adx at hQ; (repeat' split at hQ) <;> first | exact hQ | (exfalso; omega))
    · skip
      refine x_bipush (i := 12) (pc' := 24) rfl rfl (by decide) ?_
      exact m_ireturn (i := 13) rfl rfl (by unfold adr adx at hQ; (repeat' split at hQ) <;> first | exact hQ | (exfalso; omega))
theorem s_X3_change {G : GG} {m : Mem} {Q : Option Value → Mem → Prop} {k w v : Int} (hM : MR m) (hn : CN m) (h1 : rg k) (h2 : rg w) (h3 : rg v) (hQ : Q (some (.int (J (chr m k w v)))) (chx m k w v)) : CM G 3 mX3_change [.ref (G.2.2.2 2), .int (J (k)), .int (J (w)), .int (J (v))] m Q := by
  refine CM.of dkX3_change (Or.inl rfl) [some _, some _, some _, some _, none, none] rfl (Nat.le_of_ble_eq_true rfl) ?_
  have hn0 := hn.1; have hn1 := hn.2
  have hb := bp_01 (he (stm m 3 (k * 5 + w) v) k)
  refine x_iload_n (i := 0) (pc' := 1) rfl rfl rfl rfl ?_
  refine x_iconst (i := 1) (pc' := 2) rfl rfl ?_
  refine x_icmpne (i := 2) (pc' := 5) (tgt := 9) rfl rfl (by decide) (by (repeat' split) <;> first | omega | exact hM _ _) (by (repeat' split) <;> first | omega | exact hM _ _) (fun c1 => ?_) (fun c1 => ?_)
  · skip
    refine x_bipush (i := 5) (pc' := 11) rfl rfl (by decide) ?_
    refine x_istore (L' := [some _, some _, some _, some _, some _, none]) (i := 6) (pc' := 13) rfl rfl rfl (by decide) rfl ?_
    refine x_aload_n (i := 7) (pc' := 14) rfl rfl rfl rfl ?_
    refine x_iload_n (i := 8) (pc' := 15) rfl rfl rfl rfl ?_
    refine m_callV (i := 9) (pc' := 18) (av := [_]) (rest := []) rfl rfl (by decide) lX3_56 (sh2 G) rfl rfl rfl rfl rfl (Nat.le_of_ble_eq_true rfl) (Nat.le_refl _) (Nat.le_refl _) (s_X3_holds hn (by omega) ?_)
    dsimp only [psh]
    refine x_ifeq (i := 10) (pc' := 21) (tgt := 40) rfl rfl (by decide) (by (repeat' split) <;> first | omega | exact hM _ _) (fun c2 => ?_) (fun c2 => ?_)
    · skip
      refine x_bipush (i := 21) (pc' := 42) rfl rfl (by decide) ?_
      exact m_ireturn (i := 22) rfl rfl (by unfold chr chx at hQ; (repeat' split at hQ) <;> first | exact hQ | (exfalso; omega) | (rw [stm_back]; exact hQ))
    · skip
      refine x_iload_n (i := 11) (pc' := 22) rfl rfl rfl rfl ?_
      refine x_iconst (i := 12) (pc' := 23) rfl rfl ?_
      refine x_iconst (i := 13) (pc' := 24) rfl rfl ?_
      refine m_callS (i := 14) (pc' := 27) (av := [_, _, _]) (rest := []) rfl rfl (by decide) lX3_28 rfl rfl (Nat.le_of_ble_eq_true rfl) (Nat.le_refl _) (Nat.le_refl _) (s_X11_isWithin (by omega) (by omega) (by omega) ?_)
      dsimp only [psh]
      refine x_ifeq (i := 15) (pc' := 30) (tgt := 40) rfl rfl (by decide) (by (repeat' split) <;> first | omega | exact hM _ _) (fun c3 => ?_) (fun c3 => ?_)
      · skip
        refine x_bipush (i := 21) (pc' := 42) rfl rfl (by decide) ?_
        exact m_ireturn (i := 22) rfl rfl (by unfold chr chx at hQ; (repeat' split at hQ) <;> first | exact hQ | (exfalso; omega) | (rw [stm_back]; exact hQ))
      · skip
        refine x_iload_n (i := 16) (pc' := 31) rfl rfl rfl rfl ?_
        refine x_iconst (i := 17) (pc' := 32) rfl rfl ?_
        refine x_iload (i := 18) (pc' := 34) rfl rfl rfl ?_
        refine m_callS (i := 19) (pc' := 37) (av := [_, _, _]) (rest := []) rfl rfl (by decide) lX3_28 rfl rfl (Nat.le_of_ble_eq_true rfl) (Nat.le_refl _) (Nat.le_refl _) (s_X11_isWithin (by omega) (by omega) (by omega) ?_)
        dsimp only [psh]
        refine x_ifne (i := 20) (pc' := 40) (tgt := 43) rfl rfl (by decide) (by (repeat' split) <;> first | omega | exact hM _ _) (fun c4 => ?_) (fun c4 => ?_)
        · skip
          refine x_aload_n (i := 23) (pc' := 44) rfl rfl rfl rfl ?_
          refine x_iload_n (i := 24) (pc' := 45) rfl rfl rfl rfl ?_
          refine x_iload_n (i := 25) (pc' := 46) rfl rfl rfl rfl ?_
          refine m_callV (i := 26) (pc' := 49) (av := [_, _]) (rest := []) rfl rfl (by decide) lX3_59 (sh2 G) rfl rfl rfl rfl rfl (Nat.le_of_ble_eq_true rfl) (Nat.le_refl _) (Nat.le_refl _) (s_X3_trait (by (repeat' split at *) <;> omega) (by (repeat' split at *) <;> omega) ?_)
          dsimp only [psh]
          refine x_istore (L' := [some _, some _, some _, some _, some _, some _]) (i := 27) (pc' := 51) rfl rfl rfl (by decide) rfl ?_
          refine x_aload_n (i := 28) (pc' := 52) rfl rfl rfl rfl ?_
          refine x_iload_n (i := 29) (pc' := 53) rfl rfl rfl rfl ?_
          refine x_iload_n (i := 30) (pc' := 54) rfl rfl rfl rfl ?_
          refine x_iload_n (i := 31) (pc' := 55) rfl rfl rfl rfl ?_
          refine m_callV (i := 32) (pc' := 58) (av := [_, _, _]) (rest := []) rfl rfl (by decide) lX3_32 (sh2 G) rfl rfl rfl rfl rfl (Nat.le_of_ble_eq_true rfl) (Nat.le_refl _) (Nat.le_refl _) (s_X3_setTrait (by (repeat' split at *) <;> omega) (by (repeat' split at *) <;> omega) ?_)
          dsimp only [psh]
          refine x_aload_n (i := 33) (pc' := 59) rfl rfl rfl rfl ?_
          refine x_iload_n (i := 34) (pc' := 60) rfl rfl rfl rfl ?_
          refine m_callV (i := 35) (pc' := 63) (av := [_]) (rest := []) rfl rfl (by decide) lX3_48 (sh2 G) rfl rfl rfl rfl rfl (Nat.le_of_ble_eq_true rfl) (Nat.le_refl _) (Nat.le_refl _) (s_X3_hasEqual (hM.st h3) hn (by (repeat' split at *) <;> omega) ?_)
          dsimp only [psh]
          refine x_ifeq (i := 36) (pc' := 66) (tgt := 77) rfl rfl (by decide) (by (repeat' split) <;> first | omega | exact hM _ _) (fun c5 => ?_) (fun c5 => ?_)
          · skip
            refine x_iload (i := 44) (pc' := 79) rfl rfl rfl ?_
            exact m_ireturn (i := 45) rfl rfl (by unfold chr chx at hQ; (repeat' split at hQ) <;> first | exact hQ | (exfalso; omega) | (rw [stm_back]; exact hQ))
          · skip
            refine x_aload_n (i := 37) (pc' := 67) rfl rfl rfl rfl ?_
            refine x_iload_n (i := 38) (pc' := 68) rfl rfl rfl rfl ?_
            refine x_iload_n (i := 39) (pc' := 69) rfl rfl rfl rfl ?_
            refine x_iload (i := 40) (pc' := 71) rfl rfl rfl ?_
            refine m_callV (i := 41) (pc' := 74) (av := [_, _, _]) (rest := []) rfl rfl (by decide) lX3_32 (sh2 G) rfl rfl rfl rfl rfl (Nat.le_of_ble_eq_true rfl) (Nat.le_refl _) (Nat.le_refl _) (s_X3_setTrait (by (repeat' split at *) <;> omega) (by (repeat' split at *) <;> omega) ?_)
            dsimp only [psh]
            refine x_bipush (i := 42) (pc' := 76) rfl rfl (by decide) ?_
            exact m_ireturn (i := 43) rfl rfl (by unfold chr chx at hQ; (repeat' split at hQ) <;> first | exact hQ | (exfalso; omega) | (rw [stm_back]; exact hQ))
        · skip
          refine x_bipush (i := 21) (pc' := 42) rfl rfl (by decide) ?_
          exact m_ireturn (i := 22) rfl rfl (by unfold chr chx at hQ; (repeat' split at hQ) <;> first | exact hQ | (exfalso; omega) | (rw [stm_back]; exact hQ))
  · skip
    refine x_iconst (i := 3) (pc' := 6) rfl rfl ?_
    refine x_goto (i := 4) (pc' := 11) rfl (by decide) ?_
    refine x_istore (L' := [some _, some _, some _, some _, some _, none]) (i := 6) (pc' := 13) rfl rfl rfl (by decide) rfl ?_
    refine x_aload_n (i := 7) (pc' := 14) rfl rfl rfl rfl ?_
    refine x_iload_n (i := 8) (pc' := 15) rfl rfl rfl rfl ?_
    refine m_callV (i := 9) (pc' := 18) (av := [_]) (rest := []) rfl rfl (by decide) lX3_56 (sh2 G) rfl rfl rfl rfl rfl (Nat.le_of_ble_eq_true rfl) (Nat.le_refl _) (Nat.le_refl _) (s_X3_holds hn (by omega) ?_)
    dsimp only [psh]
    refine x_ifeq (i := 10) (pc' := 21) (tgt := 40) rfl rfl (by decide) (by (repeat' split) <;> first | omega | exact hM _ _) (fun c6 => ?_) (fun c6 => ?_)
    · skip
      refine x_bipush (i := 21) (pc' := 42) rfl rfl (by decide) ?_
      exact m_ireturn (i := 22) rfl rfl (by unfold chr chx at hQ; (repeat' split at hQ) <;> first | exact hQ | (exfalso; omega) | (rw [stm_back]; exact hQ))
    · skip
      refine x_iload_n (i := 11) (pc' := 22) rfl rfl rfl rfl ?_
      refine x_iconst (i := 12) (pc' := 23) rfl rfl ?_
      refine x_iconst (i := 13) (pc' := 24) rfl rfl ?_
      refine m_callS (i := 14) (pc' := 27) (av := [_, _, _]) (rest := []) rfl rfl (by decide) lX3_28 rfl rfl (Nat.le_of_ble_eq_true rfl) (Nat.le_refl _) (Nat.le_refl _) (s_X11_isWithin (by omega) (by omega) (by omega) ?_)
      dsimp only [psh]
      refine x_ifeq (i := 15) (pc' := 30) (tgt := 40) rfl rfl (by decide) (by (repeat' split) <;> first | omega | exact hM _ _) (fun c7 => ?_) (fun c7 => ?_)
      · skip
        refine x_bipush (i := 21) (pc' := 42) rfl rfl (by decide) ?_
        exact m_ireturn (i := 22) rfl rfl (by unfold chr chx at hQ; (repeat' split at hQ) <;> first | exact hQ | (exfalso; omega) | (rw [stm_back]; exact hQ))
      · skip
        refine x_iload_n (i := 16) (pc' := 31) rfl rfl rfl rfl ?_
        refine x_iconst (i := 17) (pc' := 32) rfl rfl ?_
        refine x_iload (i := 18) (pc' := 34) rfl rfl rfl ?_
        refine m_callS (i := 19) (pc' := 37) (av := [_, _, _]) (rest := []) rfl rfl (by decide) lX3_28 rfl rfl (Nat.le_of_ble_eq_true rfl) (Nat.le_refl _) (Nat.le_refl _) (s_X11_isWithin (by omega) (by omega) (by omega) ?_)
        dsimp only [psh]
        refine x_ifne (i := 20) (pc' := 40) (tgt := 43) rfl rfl (by decide) (by (repeat' split) <;> first | omega | exact hM _ _) (fun c8 => ?_) (fun c8 => ?_)
        · skip
          refine x_aload_n (i := 23) (pc' := 44) rfl rfl rfl rfl ?_
          refine x_iload_n (i := 24) (pc' := 45) rfl rfl rfl rfl ?_
          refine x_iload_n (i := 25) (pc' := 46) rfl rfl rfl rfl ?_
          refine m_callV (i := 26) (pc' := 49) (av := [_, _]) (rest := []) rfl rfl (by decide) lX3_59 (sh2 G) rfl rfl rfl rfl rfl (Nat.le_of_ble_eq_true rfl) (Nat.le_refl _) (Nat.le_refl _) (s_X3_trait (by (repeat' split at *) <;> omega) (by (repeat' split at *) <;> omega) ?_)
          dsimp only [psh]
          refine x_istore (L' := [some _, some _, some _, some _, some _, some _]) (i := 27) (pc' := 51) rfl rfl rfl (by decide) rfl ?_
          refine x_aload_n (i := 28) (pc' := 52) rfl rfl rfl rfl ?_
          refine x_iload_n (i := 29) (pc' := 53) rfl rfl rfl rfl ?_
          refine x_iload_n (i := 30) (pc' := 54) rfl rfl rfl rfl ?_
          refine x_iload_n (i := 31) (pc' := 55) rfl rfl rfl rfl ?_
          refine m_callV (i := 32) (pc' := 58) (av := [_, _, _]) (rest := []) rfl rfl (by decide) lX3_32 (sh2 G) rfl rfl rfl rfl rfl (Nat.le_of_ble_eq_true rfl) (Nat.le_refl _) (Nat.le_refl _) (s_X3_setTrait (by (repeat' split at *) <;> omega) (by (repeat' split at *) <;> omega) ?_)
          dsimp only [psh]
          refine x_aload_n (i := 33) (pc' := 59) rfl rfl rfl rfl ?_
          refine x_iload_n (i := 34) (pc' := 60) rfl rfl rfl rfl ?_
          refine m_callV (i := 35) (pc' := 63) (av := [_]) (rest := []) rfl rfl (by decide) lX3_48 (sh2 G) rfl rfl rfl rfl rfl (Nat.le_of_ble_eq_true rfl) (Nat.le_refl _) (Nat.le_refl _) (s_X3_hasEqual (hM.st h3) hn (by (repeat' split at *) <;> omega) ?_)
          dsimp only [psh]
          refine x_ifeq (i := 36) (pc' := 66) (tgt := 77) rfl rfl (by decide) (by (repeat' split) <;> first | omega | exact hM _ _) (fun c9 => ?_) (fun c9 => ?_)
          · skip
            refine x_iload (i := 44) (pc' := 79) rfl rfl rfl ?_
            exact m_ireturn (i := 45) rfl rfl (by unfold chr chx at hQ; (repeat' split at hQ) <;> first | exact hQ | (exfalso; omega) | (rw [stm_back]; exact hQ))
          · skip
            refine x_aload_n (i := 37) (pc' := 67) rfl rfl rfl rfl ?_
            refine x_iload_n (i := 38) (pc' := 68) rfl rfl rfl rfl ?_
            refine x_iload_n (i := 39) (pc' := 69) rfl rfl rfl rfl ?_
            refine x_iload (i := 40) (pc' := 71) rfl rfl rfl ?_
            refine m_callV (i := 41) (pc' := 74) (av := [_, _, _]) (rest := []) rfl rfl (by decide) lX3_32 (sh2 G) rfl rfl rfl rfl rfl (Nat.le_of_ble_eq_true rfl) (Nat.le_refl _) (Nat.le_refl _) (s_X3_setTrait (by (repeat' split at *) <;> omega) (by (repeat' split at *) <;> omega) ?_)
            dsimp only [psh]
            refine x_bipush (i := 42) (pc' := 76) rfl rfl (by decide) ?_
            exact m_ireturn (i := 43) rfl rfl (by unfold chr chx at hQ; (repeat' split at hQ) <;> first | exact hQ | (exfalso; omega) | (rw [stm_back]; exact hQ))
        · skip
          refine x_bipush (i := 21) (pc' := 42) rfl rfl (by decide) ?_
          exact m_ireturn (i := 22) rfl rfl (by unfold chr chx at hQ; (repeat' split at hQ) <;> first | exact hQ | (exfalso; omega) | (rw [stm_back]; exact hQ))
theorem s_X3_remove {G : GG} {m : Mem} {Q : Option Value → Mem → Prop} {k : Int} (hM : MR m) (hn : CN m) (h1 : rg k) (hQ : Q (some (.int (J (if 0 ≤ k ∧ k < m 2 2 then m 2 2 - 1 else -2)))) (if 0 ≤ k ∧ k < m 2 2 then rmm m k else m)) : CM G 2 mX3_remove [.ref (G.2.2.2 2), .int (J (k))] m Q := by
  refine CM.of dkX3_remove (Or.inl rfl) [some _, some _] rfl (Nat.le_of_ble_eq_true rfl) ?_
  have hn0 := hn.1; have hn1 := hn.2
  refine x_aload_n (i := 0) (pc' := 1) rfl rfl rfl rfl ?_
  refine x_iload_n (i := 1) (pc' := 2) rfl rfl rfl rfl ?_
  refine m_callV (i := 2) (pc' := 5) (av := [_]) (rest := []) rfl rfl (by decide) lX3_56 (sh2 G) rfl rfl rfl rfl rfl (Nat.le_of_ble_eq_true rfl) (Nat.le_refl _) (Nat.le_refl _) (s_X3_holds hn (by omega) ?_)
  dsimp only [psh]
  refine x_ifne (i := 3) (pc' := 8) (tgt := 11) rfl rfl (by decide) (by (repeat' split) <;> omega) (fun c1 => ?_) (fun c1 => ?_)
  · skip
    refine x_aload_n (i := 6) (pc' := 12) rfl rfl rfl rfl ?_
    refine m_getf (i := 7) (pc' := 15) rfl rfl flX3_9 (sh2 G) rfl rfl ?_
    refine x_iload_n (i := 8) (pc' := 16) rfl rfl rfl rfl ?_
    refine x_iconst (i := 9) (pc' := 17) rfl rfl ?_
    refine x_iadd (i := 10) (pc' := 18) rfl rfl ?_
    refine x_iconst (i := 11) (pc' := 19) rfl rfl ?_
    refine x_imul (i := 12) (pc' := 20) rfl rfl ?_
    refine x_aload_n (i := 13) (pc' := 21) rfl rfl rfl rfl ?_
    refine m_getf (i := 14) (pc' := 24) rfl rfl flX3_9 (sh2 G) rfl rfl ?_
    refine x_iload_n (i := 15) (pc' := 25) rfl rfl rfl rfl ?_
    refine x_iconst (i := 16) (pc' := 26) rfl rfl ?_
    refine x_imul (i := 17) (pc' := 27) rfl rfl ?_
    refine x_aload_n (i := 18) (pc' := 28) rfl rfl rfl rfl ?_
    refine m_getf (i := 19) (pc' := 31) rfl rfl flX3_18 (sh2 G) rfl rfl ?_
    refine x_iconst (i := 20) (pc' := 32) rfl rfl ?_
    refine x_isub (i := 21) (pc' := 33) rfl rfl ?_
    refine x_iload_n (i := 22) (pc' := 34) rfl rfl rfl rfl ?_
    refine x_isub (i := 23) (pc' := 35) rfl rfl ?_
    refine x_iconst (i := 24) (pc' := 36) rfl rfl ?_
    refine x_imul (i := 25) (pc' := 37) rfl rfl ?_
    refine m_copy (i := 26) (pc' := 40) rfl rfl (by decide) acX3_22 (sh3 G) (sh3 G) (by decide) (by decide) (by (repeat' split at *) <;> first | omega | (show _ ≤ ((85 : Nat) : Int); omega)) (by (repeat' split at *) <;> first | omega | (show _ ≤ ((85 : Nat) : Int); omega)) (by (repeat' split at *) <;> first | omega | (show _ ≤ ((85 : Nat) : Int); omega)) (by (repeat' split at *) <;> first | omega | (show _ ≤ ((85 : Nat) : Int); omega)) (by (repeat' split at *) <;> first | omega | (show _ ≤ ((85 : Nat) : Int); omega)) (Nat.le_of_ble_eq_true rfl) ac_n ac_s ac_i ?_
    refine x_aload_n (i := 27) (pc' := 41) rfl rfl rfl rfl ?_
    refine x_dup (i := 28) (pc' := 42) rfl rfl rfl ?_
    refine m_getf (i := 29) (pc' := 45) rfl rfl flX3_18 (sh2 G) rfl rfl ?_
    refine x_iconst (i := 30) (pc' := 46) rfl rfl ?_
    refine x_isub (i := 31) (pc' := 47) rfl rfl ?_
    refine m_putf (kz := 2) (i := 32) (pc' := 50) rfl rfl flX3_18 (sh2 G) (fun _ => rfl) rfl (Nat.le_of_ble_eq_true rfl) rfl rfl ?_
    refine x_aload_n (i := 33) (pc' := 51) rfl rfl rfl rfl ?_
    refine m_getf (i := 34) (pc' := 54) rfl rfl flX3_18 (sh2 G) rfl rfl ?_
    exact m_ireturn (i := 35) rfl rfl (by (repeat' split at hQ) <;> first | exact hQ | (exfalso; omega) | (rw [← rmm_n m k] at hQ; exact hQ))
  · skip
    refine x_bipush (i := 4) (pc' := 10) rfl rfl (by decide) ?_
    exact m_ireturn (i := 5) rfl rfl (by (repeat' split at hQ) <;> first | exact hQ | (exfalso; omega) | (rw [← rmm_n m k] at hQ; exact hQ))
theorem s_X3_countOfSort {G : GG} {m : Mem} {Q : Option Value → Mem → Prop} {a : Int} (hM : MR m) (hn : CN m) (ha : rg a) (hQ : Q (some (.int (J (cs m a)))) m) : CM G 1 mX3_countOfSort [.ref (G.2.2.2 2), .int (J (a))] m Q := by
  refine CM.of dkX3_countOfSort (Or.inl rfl) [some _, some _, none, none] rfl (Nat.le_of_ble_eq_true rfl) ?_
  have hn0 := hn.1; have hn1 := hn.2
  refine x_iconst (i := 0) (pc' := 1) rfl rfl ?_
  refine x_istore_n (L' := [some _, some _, some _, none]) (i := 1) (pc' := 2) rfl rfl rfl rfl (by decide) rfl ?_
  refine x_iconst (i := 2) (pc' := 3) rfl rfl ?_
  refine x_istore_n (L' := [some _, some _, some _, some _]) (i := 3) (pc' := 4) rfl rfl rfl rfl (by decide) rfl ?_
  skip
  refine up_ind0 (P := fun (j : Int) (x : Int) => BW G 1 mX3_countOfSort Q 4 [some (.ref (G.2.2.2 2)), some (.int (J (a))), some (.int (J (x))), some (.int (J (j)))] [] m) (fun (j : Int) (x : Int) => if m 3 (j * 5 + 4) = a then x + 1 else x) (m 2 2) (0) (0) (by omega) (fun j x hj0 hj hk => ?_) ?_
  · skip
    refine x_iload_n (i := 4) (pc' := 5) rfl rfl rfl rfl ?_
    refine x_aload_n (i := 5) (pc' := 6) rfl rfl rfl rfl ?_
    refine m_getf (i := 6) (pc' := 9) rfl rfl flX3_18 (sh2 G) rfl rfl ?_
    refine x_icmpge (i := 7) (pc' := 12) (tgt := 31) rfl rfl (by decide) (by first | omega | exact hM _ _) (by first | omega | exact hM _ _) (fun c1 => by exfalso; omega) (fun c1 => ?_)
    refine x_aload_n (i := 8) (pc' := 13) rfl rfl rfl rfl ?_
    refine x_iload_n (i := 9) (pc' := 14) rfl rfl rfl rfl ?_
    refine x_iconst (i := 10) (pc' := 15) rfl rfl ?_
    refine m_callV (i := 11) (pc' := 18) (av := [_, _]) (rest := []) rfl rfl (by decide) lX3_59 (sh2 G) rfl rfl rfl rfl rfl (Nat.le_of_ble_eq_true rfl) (Nat.le_refl _) (Nat.le_refl _) (s_X3_trait (by omega) (by omega) ?_)
    dsimp only [psh]
    refine x_iload_n (i := 12) (pc' := 19) rfl rfl rfl rfl ?_
    refine x_icmpne (i := 13) (pc' := 22) (tgt := 25) rfl rfl (by decide) (by first | omega | exact hM _ _) (by first | omega | exact hM _ _) (fun c2 => ?_) (fun c2 => ?_)
    · first | (exfalso; omega; done) | skip
      all_goals (
        refine x_iinc (L' := [some _, some _, some _, some _]) (i := 15) (pc' := 28) rfl rfl rfl rfl (by decide) rfl ?_
        refine x_goto (i := 16) (pc' := 4) rfl (by decide) ?_
        (first | exact hk | (refine AW.le ?_ hk; simp [lvle]; done) | ((repeat' split at hk) <;> first | exact hk | (refine AW.le ?_ hk; simp [lvle]; done) | (exfalso; omega)))
        skip)
    · first | (exfalso; omega; done) | skip
      all_goals (
        refine x_iinc (L' := [some _, some _, some _, some _]) (i := 14) (pc' := 25) rfl rfl rfl rfl (by decide) rfl ?_
        refine x_iinc (L' := [some _, some _, some _, some _]) (i := 15) (pc' := 28) rfl rfl rfl rfl (by decide) rfl ?_
        refine x_goto (i := 16) (pc' := 4) rfl (by decide) ?_
        (first | exact hk | (refine AW.le ?_ hk; simp [lvle]; done) | ((repeat' split at hk) <;> first | exact hk | (refine AW.le ?_ hk; simp [lvle]; done) | (exfalso; omega)))
        skip)
  · skip
    refine x_iload_n (i := 4) (pc' := 5) rfl rfl rfl rfl ?_
    refine x_aload_n (i := 5) (pc' := 6) rfl rfl rfl rfl ?_
    refine m_getf (i := 6) (pc' := 9) rfl rfl flX3_18 (sh2 G) rfl rfl ?_
    refine x_icmpge (i := 7) (pc' := 12) (tgt := 31) rfl rfl (by decide) ⟨by omega, by omega⟩ ⟨by omega, by omega⟩ (fun c1 => ?_) (fun c1 => by exfalso; omega)
    refine x_iload_n (i := 17) (pc' := 32) rfl rfl rfl rfl ?_
    exact m_ireturn (i := 18) rfl rfl (by rw [Int.sub_zero]; exact hQ)
end
section
def mtc (m : Mem) (k : Int) : Prop := ∀ p, 0 ≤ p → p < 4 → (m 3 (16 * 5 + p) = -1 ∨ m 3 (16 * 5 + p) = m 3 (k * 5 + p))
noncomputable def mts (m : Mem) : Int := it (fun k x => if bp (mtc m k) = 0 then x else io x (1 * 2 ^ k.toNat)) 0 (m 2 2).toNat 0
def nb (m : Mem) (k d : Int) : Int := it (fun j x => if ds m j k ≤ d then io x (1 * 2 ^ j.toNat) else x) 0 (m 2 2).toNat 0
def clo (m : Mem) : Int × Int := it (fun j (x : Int × Int) => if ds m j 16 < x.2 then (j, ds m j 16) else x) 0 (m 2 2).toNat (-1, 2147483647)
def exs (m : Mem) (g j k : Int) (x : Int × Int) : Int × Int := if x.1 = -1 ∨ (if g = 0 then ds m j k < x.2 else x.2 < ds m j k) then (j * 16 + k, ds m j k) else x
def exr (m : Mem) (g j : Int) (x : Int × Int) : Int × Int := it (fun k x => exs m g j k x) (j + 1) (m 2 2 - (j + 1)).toNat x
def exp_ (m : Mem) (g : Int) : Int × Int := it (fun j x => exr m g j x) 0 (m 2 2).toNat (-1, 0)
def RVs (m : Mem) : Prop := ∀ k, 0 ≤ k → k < m 2 2 → RV m k
theorem s_X3_matchesAsked {G : GG} {m : Mem} {Q : Option Value → Mem → Prop} {a : Int} (hM : MR m) (ha : 0 ≤ a ∧ a ≤ 16) (hQ : Q (some (.int (J (bp (mtc m a))))) m) : CM G 1 mX3_matchesAsked [.ref (G.2.2.2 2), .int (J (a))] m Q := by
  refine CM.of dkX3_matchesAsked (Or.inl rfl) [some _, some _, none, none] rfl (Nat.le_of_ble_eq_true rfl) ?_
  refine x_iconst (i := 0) (pc' := 1) rfl rfl ?_
  refine x_istore_n (L' := [some _, some _, some _, none]) (i := 1) (pc' := 2) rfl rfl rfl rfl (by decide) rfl ?_
  skip
  refine all_ind (P := fun j => BW G 1 mX3_matchesAsked Q 2 [some (.ref (G.2.2.2 2)), some (.int (J (a))), some (.int (J (j))), none] [] m) (Z := fun r => Q (some (.int (J r))) m) (fun p => m 3 (16 * 5 + p) = -1 ∨ m 3 (16 * 5 + p) = m 3 (a * 5 + p)) 4 0 (by omega) (fun hz => ?_) (fun j hj0 hj h1 h2 => ?_) hQ
  · skip
    refine x_iload_n (i := 2) (pc' := 3) rfl rfl rfl rfl ?_
    refine x_iconst (i := 3) (pc' := 4) rfl rfl ?_
    refine x_icmpge (i := 4) (pc' := 7) (tgt := 38) rfl rfl (by decide) ⟨by omega, by omega⟩ ⟨by omega, by omega⟩ (fun c1 => ?_) (fun c1 => by exfalso; omega)
    refine x_iconst (i := 23) (pc' := 39) rfl rfl ?_
    exact m_zreturn (i := 24) rfl rfl (by omega) (hz)
  · skip
    refine x_iload_n (i := 2) (pc' := 3) rfl rfl rfl rfl ?_
    refine x_iconst (i := 3) (pc' := 4) rfl rfl ?_
    refine x_icmpge (i := 4) (pc' := 7) (tgt := 38) rfl rfl (by decide) (by first | omega | exact hM _ _) (by first | omega | exact hM _ _) (fun c1 => by exfalso; omega) (fun c1 => ?_)
    refine x_aload_n (i := 5) (pc' := 8) rfl rfl rfl rfl ?_
    refine x_bipush (i := 6) (pc' := 10) rfl rfl (by decide) ?_
    refine x_iload_n (i := 7) (pc' := 11) rfl rfl rfl rfl ?_
    refine m_callV (i := 8) (pc' := 14) (av := [_, _]) (rest := []) rfl rfl (by decide) lX3_59 (sh2 G) rfl rfl rfl rfl rfl (Nat.le_of_ble_eq_true rfl) (Nat.le_refl _) (Nat.le_refl _) (s_X3_trait (by omega) (by omega) ?_)
    dsimp only [psh]
    refine x_istore_n (L' := [some _, some _, some _, some _]) (i := 9) (pc' := 15) rfl rfl rfl rfl (by decide) rfl ?_
    refine x_iload_n (i := 10) (pc' := 16) rfl rfl rfl rfl ?_
    refine x_iconst (i := 11) (pc' := 17) rfl rfl ?_
    refine x_icmpeq (i := 12) (pc' := 20) (tgt := 32) rfl rfl (by decide) (by first | omega | exact hM _ _) (by first | omega | exact hM _ _) (fun c2 => ?_) (fun c2 => ?_)
    · first | (exfalso; omega; done) | skip
      all_goals (
        refine x_iinc (L' := [some _, some _, some _, some _]) (i := 21) (pc' := 35) rfl rfl rfl rfl (by decide) rfl ?_
        refine x_goto (i := 22) (pc' := 2) rfl (by decide) ?_
        have hk := h2 (by omega)
        first | exact hk | (refine AW.le ?_ hk; simp [lvle]; done) | ((repeat' split at hk) <;> first | exact hk | (refine AW.le ?_ hk; simp [lvle]; done) | (exfalso; omega))
        skip)
    · first | (exfalso; omega; done) | skip
      all_goals (
        refine x_iload_n (i := 13) (pc' := 21) rfl rfl rfl rfl ?_
        refine x_aload_n (i := 14) (pc' := 22) rfl rfl rfl rfl ?_
        refine x_iload_n (i := 15) (pc' := 23) rfl rfl rfl rfl ?_
        refine x_iload_n (i := 16) (pc' := 24) rfl rfl rfl rfl ?_
        refine m_callV (i := 17) (pc' := 27) (av := [_, _]) (rest := [_]) rfl rfl (by decide) lX3_59 (sh2 G) rfl rfl rfl rfl rfl (Nat.le_of_ble_eq_true rfl) (Nat.le_refl _) (Nat.le_refl _) (s_X3_trait (by omega) (by omega) ?_)
        dsimp only [psh]
        refine x_icmpeq (i := 18) (pc' := 30) (tgt := 32) rfl rfl (by decide) (by first | omega | exact hM _ _) (by first | omega | exact hM _ _) (fun c3 => ?_) (fun c3 => ?_)
        · first | (exfalso; omega; done) | skip
          all_goals (
            refine x_iinc (L' := [some _, some _, some _, some _]) (i := 21) (pc' := 35) rfl rfl rfl rfl (by decide) rfl ?_
            refine x_goto (i := 22) (pc' := 2) rfl (by decide) ?_
            have hk := h2 (by omega)
            first | exact hk | (refine AW.le ?_ hk; simp [lvle]; done) | ((repeat' split at hk) <;> first | exact hk | (refine AW.le ?_ hk; simp [lvle]; done) | (exfalso; omega))
            skip)
        · first | (exfalso; omega; done) | skip
          all_goals (
            refine x_iconst (i := 19) (pc' := 31) rfl rfl ?_
            exact m_zreturn (i := 20) rfl rfl (by omega) (h1 (by omega))
            skip)
        skip)
theorem s_X3_matches {G : GG} {m : Mem} {Q : Option Value → Mem → Prop} (hM : MR m) (hn : CN m) (hQ : Q (some (.int (J (mts m)))) m) : CM G 2 mX3_matches [.ref (G.2.2.2 2)] m Q := by
  refine CM.of dkX3_matches (Or.inl rfl) [some _, none, none] rfl (Nat.le_of_ble_eq_true rfl) ?_
  have hn0 := hn.1; have hn1 := hn.2
  refine x_iconst (i := 0) (pc' := 1) rfl rfl ?_
  refine x_istore_n (L' := [some _, some _, none]) (i := 1) (pc' := 2) rfl rfl rfl rfl (by decide) rfl ?_
  refine x_iconst (i := 2) (pc' := 3) rfl rfl ?_
  refine x_istore_n (L' := [some _, some _, some _]) (i := 3) (pc' := 4) rfl rfl rfl rfl (by decide) rfl ?_
  skip
  refine up_ind1 (P := fun (j : Int) (x : Int) => BW G 2 mX3_matches Q 4 [some (.ref (G.2.2.2 2)), some (.int (J (x))), some (.int (J (j)))] [] m) (fun (j : Int) (x : Int) => if bp (mtc m j) = 0 then x else io x (1 * 2 ^ j.toNat)) (fun (j : Int) (x : Int) => 0 ≤ x) (m 2 2) (0) (0) (by omega) (by omega) (fun j x hj0 hj hi => by split <;> first | exact hi | exact io_nn _ _) (fun j x hj0 hj hi hk => ?_) (fun hi => ?_)
  · have hb := bp_01 (mtc m j)
    refine x_iload_n (i := 4) (pc' := 5) rfl rfl rfl rfl ?_
    refine x_aload_n (i := 5) (pc' := 6) rfl rfl rfl rfl ?_
    refine m_getf (i := 6) (pc' := 9) rfl rfl flX3_18 (sh2 G) rfl rfl ?_
    refine x_icmpge (i := 7) (pc' := 12) (tgt := 32) rfl rfl (by decide) ⟨by omega, by omega⟩ ⟨by omega, by omega⟩ (fun c1 => by exfalso; omega) (fun c1 => ?_)
    refine x_aload_n (i := 8) (pc' := 13) rfl rfl rfl rfl ?_
    refine x_iload_n (i := 9) (pc' := 14) rfl rfl rfl rfl ?_
    refine m_callV (i := 10) (pc' := 17) (av := [_]) (rest := []) rfl rfl (by decide) lX3_96 (sh2 G) rfl rfl rfl rfl rfl (Nat.le_of_ble_eq_true rfl) (Nat.le_refl _) (Nat.le_refl _) (s_X3_matchesAsked hM (by omega) ?_)
    dsimp only [psh]
    refine x_ifeq (i := 11) (pc' := 20) (tgt := 26) rfl rfl (by decide) ⟨by omega, by omega⟩ (fun c2 => ?_) (fun c2 => ?_)
    · first | (exfalso; omega; done) | skip
      all_goals (
        refine x_iinc (L' := [some _, some _, some _]) (i := 18) (pc' := 29) rfl rfl rfl rfl (by decide) rfl ?_
        refine x_goto (i := 19) (pc' := 4) rfl (by decide) ?_
        (first | exact hk | (refine AW.le ?_ hk; simp [lvle]; done) | ((repeat' split at hk) <;> first | exact hk | (refine AW.le ?_ hk; simp [lvle]; done) | (exfalso; omega)))
        skip)
    · first | (exfalso; omega; done) | skip
      all_goals (
        refine x_iload_n (i := 12) (pc' := 21) rfl rfl rfl rfl ?_
        refine x_iconst (i := 13) (pc' := 22) rfl rfl ?_
        refine x_iload_n (i := 14) (pc' := 23) rfl rfl rfl rfl ?_
        refine x_ishl (i := 15) (pc' := 24) rfl rfl (by first | omega | (exact Int.mul_nonneg (by omega) (Int.le_of_lt (Int.pow_pos (by omega))))) (by first | omega | (exact Int.mul_nonneg (by omega) (Int.le_of_lt (Int.pow_pos (by omega))))) ?_
        refine x_ior (i := 16) (pc' := 25) rfl rfl (by first | omega | (exact Int.mul_nonneg (by omega) (Int.le_of_lt (Int.pow_pos (by omega))))) (by first | omega | (exact Int.mul_nonneg (by omega) (Int.le_of_lt (Int.pow_pos (by omega))))) ?_
        refine x_istore_n (L' := [some _, some _, some _]) (i := 17) (pc' := 26) rfl rfl rfl rfl (by decide) rfl ?_
        refine x_iinc (L' := [some _, some _, some _]) (i := 18) (pc' := 29) rfl rfl rfl rfl (by decide) rfl ?_
        refine x_goto (i := 19) (pc' := 4) rfl (by decide) ?_
        (first | exact hk | (refine AW.le ?_ hk; simp [lvle]; done) | ((repeat' split at hk) <;> first | exact hk | (refine AW.le ?_ hk; simp [lvle]; done) | (exfalso; omega)))
        skip)
  · skip
    refine x_iload_n (i := 4) (pc' := 5) rfl rfl rfl rfl ?_
    refine x_aload_n (i := 5) (pc' := 6) rfl rfl rfl rfl ?_
    refine m_getf (i := 6) (pc' := 9) rfl rfl flX3_18 (sh2 G) rfl rfl ?_
    refine x_icmpge (i := 7) (pc' := 12) (tgt := 32) rfl rfl (by decide) ⟨by omega, by omega⟩ ⟨by omega, by omega⟩ (fun c1 => ?_) (fun c1 => by exfalso; omega)
    refine x_iload_n (i := 20) (pc' := 33) rfl rfl rfl rfl ?_
    exact m_ireturn (i := 21) rfl rfl (by rw [Int.sub_zero]; exact hQ)
theorem s_X3_neighbours {G : GG} {m : Mem} {Q : Option Value → Mem → Prop} {a b : Int} (hM : MR m) (hn : CN m) (hv : RVs m) (hw : WT m) (ha : 0 ≤ a ∧ a < m 2 2) (hb : rg b) (hQ : Q (some (.int (J (nb m a b)))) m) : CM G 3 mX3_neighbours [.ref (G.2.2.2 2), .int (J (a)), .int (J (b))] m Q := by
  refine CM.of dkX3_neighbours (Or.inl rfl) [some _, some _, some _, none, none] rfl (Nat.le_of_ble_eq_true rfl) ?_
  have hn0 := hn.1; have hn1 := hn.2
  have hva := hv a (by omega) (by omega)
  refine x_iconst (i := 0) (pc' := 1) rfl rfl ?_
  refine x_istore_n (L' := [some _, some _, some _, some _, none]) (i := 1) (pc' := 2) rfl rfl rfl rfl (by decide) rfl ?_
  refine x_iconst (i := 2) (pc' := 3) rfl rfl ?_
  refine x_istore (L' := [some _, some _, some _, some _, some _]) (i := 3) (pc' := 5) rfl rfl rfl (by decide) rfl ?_
  skip
  refine up_ind1 (P := fun (j : Int) (x : Int) => BW G 3 mX3_neighbours Q 5 [some (.ref (G.2.2.2 2)), some (.int (J (a))), some (.int (J (b))), some (.int (J (x))), some (.int (J (j)))] [] m) (fun (j : Int) (x : Int) => if ds m j a ≤ b then io x (1 * 2 ^ j.toNat) else x) (fun (j : Int) (x : Int) => 0 ≤ x) (m 2 2) (0) (0) (by omega) (by omega) (fun j x hj0 hj hi => by split <;> first | exact hi | exact io_nn _ _) (fun j x hj0 hj hi hk => ?_) (fun hi => ?_)
  · have hvj := hv j (by omega) (by omega)
    have hd := ds_le hvj hva hw
    refine x_iload (i := 4) (pc' := 7) rfl rfl rfl ?_
    refine x_aload_n (i := 5) (pc' := 8) rfl rfl rfl rfl ?_
    refine m_getf (i := 6) (pc' := 11) rfl rfl flX3_18 (sh2 G) rfl rfl ?_
    refine x_icmpge (i := 7) (pc' := 14) (tgt := 38) rfl rfl (by decide) ⟨by omega, by omega⟩ ⟨by omega, by omega⟩ (fun c1 => by exfalso; omega) (fun c1 => ?_)
    refine x_aload_n (i := 8) (pc' := 15) rfl rfl rfl rfl ?_
    refine x_iload (i := 9) (pc' := 17) rfl rfl rfl ?_
    refine x_iload_n (i := 10) (pc' := 18) rfl rfl rfl rfl ?_
    refine m_callV (i := 11) (pc' := 21) (av := [_, _]) (rest := []) rfl rfl (by decide) lX3_99 (sh2 G) rfl rfl rfl rfl rfl (Nat.le_of_ble_eq_true rfl) (Nat.le_refl _) (Nat.le_refl _) (s_X3_distance (by omega) (by omega) (by assumption) (by assumption) ?_)
    dsimp only [psh]
    refine x_iload_n (i := 12) (pc' := 22) rfl rfl rfl rfl ?_
    refine x_icmpgt (i := 13) (pc' := 25) (tgt := 32) rfl rfl (by decide) ⟨by omega, by omega⟩ ⟨by omega, by omega⟩ (fun c2 => ?_) (fun c2 => ?_)
    · first | (exfalso; omega; done) | skip
      all_goals (
        refine x_iinc (L' := [some _, some _, some _, some _, some _]) (i := 20) (pc' := 35) rfl rfl rfl rfl (by decide) rfl ?_
        refine x_goto (i := 21) (pc' := 5) rfl (by decide) ?_
        (first | exact hk | (refine AW.le ?_ hk; simp [lvle]; done) | ((repeat' split at hk) <;> first | exact hk | (refine AW.le ?_ hk; simp [lvle]; done) | (exfalso; omega)))
        skip)
    · first | (exfalso; omega; done) | skip
      all_goals (
        refine x_iload_n (i := 14) (pc' := 26) rfl rfl rfl rfl ?_
        refine x_iconst (i := 15) (pc' := 27) rfl rfl ?_
        refine x_iload (i := 16) (pc' := 29) rfl rfl rfl ?_
        refine x_ishl (i := 17) (pc' := 30) rfl rfl (by first | omega | (exact Int.mul_nonneg (by omega) (Int.le_of_lt (Int.pow_pos (by omega))))) (by first | omega | (exact Int.mul_nonneg (by omega) (Int.le_of_lt (Int.pow_pos (by omega))))) ?_
        refine x_ior (i := 18) (pc' := 31) rfl rfl (by first | omega | (exact Int.mul_nonneg (by omega) (Int.le_of_lt (Int.pow_pos (by omega))))) (by first | omega | (exact Int.mul_nonneg (by omega) (Int.le_of_lt (Int.pow_pos (by omega))))) ?_
        refine x_istore_n (L' := [some _, some _, some _, some _, some _]) (i := 19) (pc' := 32) rfl rfl rfl rfl (by decide) rfl ?_
        refine x_iinc (L' := [some _, some _, some _, some _, some _]) (i := 20) (pc' := 35) rfl rfl rfl rfl (by decide) rfl ?_
        refine x_goto (i := 21) (pc' := 5) rfl (by decide) ?_
        (first | exact hk | (refine AW.le ?_ hk; simp [lvle]; done) | ((repeat' split at hk) <;> first | exact hk | (refine AW.le ?_ hk; simp [lvle]; done) | (exfalso; omega)))
        skip)
  · skip
    refine x_iload (i := 4) (pc' := 7) rfl rfl rfl ?_
    refine x_aload_n (i := 5) (pc' := 8) rfl rfl rfl rfl ?_
    refine m_getf (i := 6) (pc' := 11) rfl rfl flX3_18 (sh2 G) rfl rfl ?_
    refine x_icmpge (i := 7) (pc' := 14) (tgt := 38) rfl rfl (by decide) ⟨by omega, by omega⟩ ⟨by omega, by omega⟩ (fun c1 => ?_) (fun c1 => by exfalso; omega)
    refine x_iload_n (i := 22) (pc' := 39) rfl rfl rfl rfl ?_
    exact m_ireturn (i := 23) rfl rfl (by rw [Int.sub_zero]; exact hQ)
theorem s_X3_closest {G : GG} {m : Mem} {Q : Option Value → Mem → Prop} (hM : MR m) (hn : CN m) (hv : RVs m) (hw : WT m) (h16 : RV m 16) (hQ : Q (some (.int (J ((clo m).1)))) m) : CM G 3 mX3_closest [.ref (G.2.2.2 2)] m Q := by
  refine CM.of dkX3_closest (Or.inl rfl) [some _, none, none, none, none] rfl (Nat.le_of_ble_eq_true rfl) ?_
  have hn0 := hn.1; have hn1 := hn.2
  refine x_iconst (i := 0) (pc' := 1) rfl rfl ?_
  refine x_istore_n (L' := [some _, some _, none, none, none]) (i := 1) (pc' := 2) rfl rfl rfl rfl (by decide) rfl ?_
  refine x_ldc (i := 2) (pc' := 4) rfl rfl kX3_102 ?_
  refine x_istore_n (L' := [some _, some _, some _, none, none]) (i := 3) (pc' := 5) rfl rfl rfl rfl (by decide) rfl ?_
  refine x_iconst (i := 4) (pc' := 6) rfl rfl ?_
  refine x_istore_n (L' := [some _, some _, some _, some _, none]) (i := 5) (pc' := 7) rfl rfl rfl rfl (by decide) rfl ?_
  skip
  refine up_ind1 (P := fun (j : Int) (x : Int × Int) => BW G 3 mX3_closest Q 7 [some (.ref (G.2.2.2 2)), some (.int (J (x.1))), some (.int (J (x.2))), some (.int (J (j))), none] [] m) (fun (j : Int) (x : Int × Int) => if ds m j 16 < x.2 then (j, ds m j 16) else x) (fun (j : Int) (x : Int × Int) => rg x.2) (m 2 2) (0) ((-1, 2147483647)) (by omega) (by omega) (fun j x hj0 hj hi => by (have hd := ds_le (hv j (by omega) (by omega)) h16 hw; split <;> first | exact hi | (show rg (ds m j 16); omega))) (fun j x hj0 hj hi hk => ?_) (fun hi => ?_)
  · have hvj := hv j (by omega) (by omega)
    have hd := ds_le hvj h16 hw
    refine x_iload_n (i := 6) (pc' := 8) rfl rfl rfl rfl ?_
    refine x_aload_n (i := 7) (pc' := 9) rfl rfl rfl rfl ?_
    refine m_getf (i := 8) (pc' := 12) rfl rfl flX3_18 (sh2 G) rfl rfl ?_
    refine x_icmpge (i := 9) (pc' := 15) (tgt := 41) rfl rfl (by decide) ⟨by omega, by omega⟩ ⟨by omega, by omega⟩ (fun c1 => by exfalso; omega) (fun c1 => ?_)
    refine x_aload_n (i := 10) (pc' := 16) rfl rfl rfl rfl ?_
    refine x_iload_n (i := 11) (pc' := 17) rfl rfl rfl rfl ?_
    refine x_bipush (i := 12) (pc' := 19) rfl rfl (by decide) ?_
    refine m_callV (i := 13) (pc' := 22) (av := [_, _]) (rest := []) rfl rfl (by decide) lX3_99 (sh2 G) rfl rfl rfl rfl rfl (Nat.le_of_ble_eq_true rfl) (Nat.le_refl _) (Nat.le_refl _) (s_X3_distance (by omega) (by omega) (by assumption) (by assumption) ?_)
    dsimp only [psh]
    refine x_istore (L' := [some _, some _, some _, some _, some _]) (i := 14) (pc' := 24) rfl rfl rfl (by decide) rfl ?_
    refine x_iload (i := 15) (pc' := 26) rfl rfl rfl ?_
    refine x_iload_n (i := 16) (pc' := 27) rfl rfl rfl rfl ?_
    refine x_icmpge (i := 17) (pc' := 30) (tgt := 35) rfl rfl (by decide) ⟨by omega, by omega⟩ ⟨by omega, by omega⟩ (fun c2 => ?_) (fun c2 => ?_)
    · first | (exfalso; omega; done) | skip
      all_goals (
        refine x_iinc (L' := [some _, some _, some _, some _, some _]) (i := 22) (pc' := 38) rfl rfl rfl rfl (by decide) rfl ?_
        refine x_goto (i := 23) (pc' := 7) rfl (by decide) ?_
        (first | exact hk | (refine AW.le ?_ hk; simp [lvle]; done) | ((repeat' split at hk) <;> first | exact hk | (refine AW.le ?_ hk; simp [lvle]; done) | (exfalso; omega)))
        skip)
    · first | (exfalso; omega; done) | skip
      all_goals (
        refine x_iload (i := 18) (pc' := 32) rfl rfl rfl ?_
        refine x_istore_n (L' := [some _, some _, some _, some _, some _]) (i := 19) (pc' := 33) rfl rfl rfl rfl (by decide) rfl ?_
        refine x_iload_n (i := 20) (pc' := 34) rfl rfl rfl rfl ?_
        refine x_istore_n (L' := [some _, some _, some _, some _, some _]) (i := 21) (pc' := 35) rfl rfl rfl rfl (by decide) rfl ?_
        refine x_iinc (L' := [some _, some _, some _, some _, some _]) (i := 22) (pc' := 38) rfl rfl rfl rfl (by decide) rfl ?_
        refine x_goto (i := 23) (pc' := 7) rfl (by decide) ?_
        (first | exact hk | (refine AW.le ?_ hk; simp [lvle]; done) | ((repeat' split at hk) <;> first | exact hk | (refine AW.le ?_ hk; simp [lvle]; done) | (exfalso; omega)))
        skip)
  · skip
    refine x_iload_n (i := 6) (pc' := 8) rfl rfl rfl rfl ?_
    refine x_aload_n (i := 7) (pc' := 9) rfl rfl rfl rfl ?_
    refine m_getf (i := 8) (pc' := 12) rfl rfl flX3_18 (sh2 G) rfl rfl ?_
    refine x_icmpge (i := 9) (pc' := 15) (tgt := 41) rfl rfl (by decide) ⟨by omega, by omega⟩ ⟨by omega, by omega⟩ (fun c1 => ?_) (fun c1 => by exfalso; omega)
    refine x_iload_n (i := 24) (pc' := 42) rfl rfl rfl rfl ?_
    exact m_ireturn (i := 25) rfl rfl (by rw [Int.sub_zero]; exact hQ)
end
section
def SN (m : Mem) : Prop := 0 ≤ m 5 1 ∧ m 5 1 ≤ 16
def co (m : Mem) (k : Int) : Int := it (fun i x => if m 6 (i * 3 + 0) = k then x + 1 else x) 0 (m 5 1).toNat 0
def rnm (m : Mem) (k : Int) : Mem := it (fun i (x : Mem) => if k < x 6 (i * 3) then stm x 6 (i * 3) (x 6 (i * 3) - 1) else x) 0 (m 5 1).toNat m
def putm (m : Mem) (i k f t : Int) : Mem := stm (stm (stm m 6 (i * 3) k) 6 (i * 3 + 1) f) 6 (i * 3 + 2) t
def apw (m : Mem) (k f t : Int) : Mem := stm (putm m (m 5 1) k f t) 5 1 (m 5 1 + 1)
def mvm (m : Mem) (a b n : Int) : Mem := sr m 6 (cpr (m 6) (m 6) (a * 3) (b * 3) (n * 3))
def rmw (m : Mem) (i : Int) : Mem := stm (mvm m (i + 1) i (m 5 1 - 1 - i)) 5 1 (m 5 1 - 1)
def shf (m : Mem) (i j : Int) : Mem := putm (if i < j then mvm m (i + 1) i (j - i) else mvm m j (j + 1) (i - j)) j (m 6 (i * 3 + 0)) (m 6 (i * 3 + 1)) (m 6 (i * 3 + 2))
theorem apw_n (m : Mem) (k f t : Int) : apw m k f t 5 1 = m 5 1 + 1 := by simp [apw, putm, stm, sr, ur]
theorem rmw_n (m : Mem) (i : Int) : rmw m i 5 1 = m 5 1 - 1 := by simp [rmw, mvm, stm, sr, ur]
def cps (m : Mem) (d s : Nat) : Mem :=
  let m1 := sr m (d + 2) (cpr (m (s + 2)) (m (d + 2)) 0 0 85)
  let m2 := sr m1 (d + 3) (cpr (m1 (s + 3)) (m1 (d + 3)) 0 0 4)
  let m3 := stm m2 (d + 1) 2 (m2 (s + 1) 2)
  let m4 := sr m3 (d + 5) (cpr (m3 (s + 5)) (m3 (d + 5)) 0 0 48)
  let m5 := stm m4 (d + 4) 1 (m4 (s + 4) 1)
  sr m5 (d + 6) (cpr (m5 (s + 6)) (m5 (d + 6)) 0 0 6)
theorem s_X8_cell {G : GG} {m : Mem} {Q : Option Value → Mem → Prop} {a b : Int} (hs : SN m) (ha : 0 ≤ a ∧ a < m 5 1) (hb : 0 ≤ b ∧ b ≤ 2) (hQ : Q (some (.int (J (m 6 (a * 3 + b))))) m) : CM G 0 mX8_cell [.ref (G.2.2.2 5), .int (J (a)), .int (J (b))] m Q := by
  refine CM.of dkX8_cell (Or.inl rfl) [some _, some _, some _] rfl (Nat.le_of_ble_eq_true rfl) ?_
  have hs0 := hs.1; have hs1 := hs.2
  refine x_iload_n (i := 0) (pc' := 1) rfl rfl rfl rfl ?_
  refine x_iflt (i := 1) (pc' := 4) (tgt := 25) rfl rfl (by decide) ⟨by omega, by omega⟩ (fun c1 => ?_) (fun c1 => ?_)
  · first | (exfalso; omega; done) | skip
    all_goals (
      refine x_iconst (i := 15) (pc' := 26) rfl rfl ?_
      exact m_ireturn (i := 16) rfl rfl (hQ)
      skip)
  · first | (exfalso; omega; done) | skip
    all_goals (
      refine x_iload_n (i := 2) (pc' := 5) rfl rfl rfl rfl ?_
      refine x_aload_n (i := 3) (pc' := 6) rfl rfl rfl rfl ?_
      refine m_getf (i := 4) (pc' := 9) rfl rfl flX8_15 (sh5 G) rfl rfl ?_
      refine x_icmpge (i := 5) (pc' := 12) (tgt := 25) rfl rfl (by decide) ⟨by omega, by omega⟩ ⟨by omega, by omega⟩ (fun c2 => ?_) (fun c2 => ?_)
      · first | (exfalso; omega; done) | skip
        all_goals (
          refine x_iconst (i := 15) (pc' := 26) rfl rfl ?_
          exact m_ireturn (i := 16) rfl rfl (hQ)
          skip)
      · first | (exfalso; omega; done) | skip
        all_goals (
          refine x_aload_n (i := 6) (pc' := 13) rfl rfl rfl rfl ?_
          refine m_getf (i := 7) (pc' := 16) rfl rfl flX8_11 (sh5 G) rfl rfl ?_
          refine x_iload_n (i := 8) (pc' := 17) rfl rfl rfl rfl ?_
          refine x_iconst (i := 9) (pc' := 18) rfl rfl ?_
          refine x_imul (i := 10) (pc' := 19) rfl rfl ?_
          refine x_iload_n (i := 11) (pc' := 20) rfl rfl rfl rfl ?_
          refine x_iadd (i := 12) (pc' := 21) rfl rfl ?_
          refine m_iald (i := 13) (pc' := 22) rfl rfl (sh6 G) (by decide) ⟨by omega, by omega⟩ ?_
          refine x_goto (i := 14) (pc' := 26) rfl (by decide) ?_
          exact m_ireturn (i := 16) rfl rfl (hQ)
          skip)
      skip)
theorem s_X8_signIn {G : GG} {m : Mem} {Q : Option Value → Mem → Prop} {a : Int} (hs : SN m) (ha : 0 ≤ a ∧ a < m 5 1) (hQ : Q (some (.int (J (m 6 (a * 3 + 0))))) m) : CM G 1 mX8_signIn [.ref (G.2.2.2 5), .int (J (a))] m Q := by
  refine CM.of dkX8_signIn (Or.inl rfl) [some _, some _] rfl (Nat.le_of_ble_eq_true rfl) ?_
  have hs0 := hs.1; have hs1 := hs.2
  refine x_aload_n (i := 0) (pc' := 1) rfl rfl rfl rfl ?_
  refine x_iload_n (i := 1) (pc' := 2) rfl rfl rfl rfl ?_
  refine x_iconst (i := 2) (pc' := 3) rfl rfl ?_
  refine m_callV (i := 3) (pc' := 6) (av := [_, _]) (rest := []) rfl rfl (by decide) lX8_29 (sh5 G) rfl rfl rfl rfl rfl (Nat.le_of_ble_eq_true rfl) (Nat.le_refl _) (Nat.le_refl _) (s_X8_cell hs (by omega) (by omega) ?_)
  dsimp only [psh]
  exact m_ireturn (i := 4) rfl rfl (hQ)
theorem s_X8_from {G : GG} {m : Mem} {Q : Option Value → Mem → Prop} {a : Int} (hs : SN m) (ha : 0 ≤ a ∧ a < m 5 1) (hQ : Q (some (.int (J (m 6 (a * 3 + 1))))) m) : CM G 1 mX8_from [.ref (G.2.2.2 5), .int (J (a))] m Q := by
  refine CM.of dkX8_from (Or.inl rfl) [some _, some _] rfl (Nat.le_of_ble_eq_true rfl) ?_
  have hs0 := hs.1; have hs1 := hs.2
  refine x_aload_n (i := 0) (pc' := 1) rfl rfl rfl rfl ?_
  refine x_iload_n (i := 1) (pc' := 2) rfl rfl rfl rfl ?_
  refine x_iconst (i := 2) (pc' := 3) rfl rfl ?_
  refine m_callV (i := 3) (pc' := 6) (av := [_, _]) (rest := []) rfl rfl (by decide) lX8_29 (sh5 G) rfl rfl rfl rfl rfl (Nat.le_of_ble_eq_true rfl) (Nat.le_refl _) (Nat.le_refl _) (s_X8_cell hs (by omega) (by omega) ?_)
  dsimp only [psh]
  exact m_ireturn (i := 4) rfl rfl (hQ)
theorem s_X8_to {G : GG} {m : Mem} {Q : Option Value → Mem → Prop} {a : Int} (hs : SN m) (ha : 0 ≤ a ∧ a < m 5 1) (hQ : Q (some (.int (J (m 6 (a * 3 + 2))))) m) : CM G 1 mX8_to [.ref (G.2.2.2 5), .int (J (a))] m Q := by
  refine CM.of dkX8_to (Or.inl rfl) [some _, some _] rfl (Nat.le_of_ble_eq_true rfl) ?_
  have hs0 := hs.1; have hs1 := hs.2
  refine x_aload_n (i := 0) (pc' := 1) rfl rfl rfl rfl ?_
  refine x_iload_n (i := 1) (pc' := 2) rfl rfl rfl rfl ?_
  refine x_iconst (i := 2) (pc' := 3) rfl rfl ?_
  refine m_callV (i := 3) (pc' := 6) (av := [_, _]) (rest := []) rfl rfl (by decide) lX8_29 (sh5 G) rfl rfl rfl rfl rfl (Nat.le_of_ble_eq_true rfl) (Nat.le_refl _) (Nat.le_refl _) (s_X8_cell hs (by omega) (by omega) ?_)
  dsimp only [psh]
  exact m_ireturn (i := 4) rfl rfl (hQ)
theorem s_X8_holds {G : GG} {m : Mem} {Q : Option Value → Mem → Prop} {a : Int} (hs : SN m) (ha : rg a) (hQ : Q (some (.int (J (if 0 ≤ a ∧ a < m 5 1 then 1 else 0)))) m) : CM G 1 mX8_holds [.ref (G.2.2.2 5), .int (J (a))] m Q := by
  refine CM.of dkX8_holds (Or.inl rfl) [some _, some _] rfl (Nat.le_of_ble_eq_true rfl) ?_
  have hs0 := hs.1; have hs1 := hs.2
  refine x_iload_n (i := 0) (pc' := 1) rfl rfl rfl rfl ?_
  refine x_iconst (i := 1) (pc' := 2) rfl rfl ?_
  refine x_aload_n (i := 2) (pc' := 3) rfl rfl rfl rfl ?_
  refine m_getf (i := 3) (pc' := 6) rfl rfl flX8_15 (sh5 G) rfl rfl ?_
  refine x_iconst (i := 4) (pc' := 7) rfl rfl ?_
  refine x_isub (i := 5) (pc' := 8) rfl rfl ?_
  refine m_callS (i := 6) (pc' := 11) (av := [_, _, _]) (rest := []) rfl rfl (by decide) lX8_25 rfl rfl (Nat.le_of_ble_eq_true rfl) (Nat.le_refl _) (Nat.le_refl _) (s_X11_isWithin (by omega) (by omega) (by omega) ?_)
  dsimp only [psh]
  exact m_zreturn (i := 7) rfl rfl (by split <;> omega) (by (repeat' split at hQ) <;> (repeat' split) <;> first | exact hQ | (exfalso; omega))
theorem s_X8_countOf {G : GG} {m : Mem} {Q : Option Value → Mem → Prop} {a : Int} (hM : MR m) (hs : SN m) (ha : rg a) (hQ : Q (some (.int (J (co m a)))) m) : CM G 2 mX8_countOf [.ref (G.2.2.2 5), .int (J (a))] m Q := by
  refine CM.of dkX8_countOf (Or.inl rfl) [some _, some _, none, none] rfl (Nat.le_of_ble_eq_true rfl) ?_
  have hs0 := hs.1; have hs1 := hs.2
  refine x_iconst (i := 0) (pc' := 1) rfl rfl ?_
  refine x_istore_n (L' := [some _, some _, some _, none]) (i := 1) (pc' := 2) rfl rfl rfl rfl (by decide) rfl ?_
  refine x_iconst (i := 2) (pc' := 3) rfl rfl ?_
  refine x_istore_n (L' := [some _, some _, some _, some _]) (i := 3) (pc' := 4) rfl rfl rfl rfl (by decide) rfl ?_
  skip
  refine up_ind0 (P := fun (j : Int) (x : Int) => BW G 2 mX8_countOf Q 4 [some (.ref (G.2.2.2 5)), some (.int (J (a))), some (.int (J (x))), some (.int (J (j)))] [] m) (fun (j : Int) (x : Int) => if m 6 (j * 3 + 0) = a then x + 1 else x) (m 5 1) (0) (0) (by omega) (fun j x hj0 hj hk => ?_) ?_
  · skip
    refine x_iload_n (i := 4) (pc' := 5) rfl rfl rfl rfl ?_
    refine x_aload_n (i := 5) (pc' := 6) rfl rfl rfl rfl ?_
    refine m_getf (i := 6) (pc' := 9) rfl rfl flX8_15 (sh5 G) rfl rfl ?_
    refine x_icmpge (i := 7) (pc' := 12) (tgt := 30) rfl rfl (by decide) (by first | omega | exact hM _ _) (by first | omega | exact hM _ _) (fun c1 => by exfalso; omega) (fun c1 => ?_)
    refine x_aload_n (i := 8) (pc' := 13) rfl rfl rfl rfl ?_
    refine x_iload_n (i := 9) (pc' := 14) rfl rfl rfl rfl ?_
    refine m_callV (i := 10) (pc' := 17) (av := [_]) (rest := []) rfl rfl (by decide) lX8_33 (sh5 G) rfl rfl rfl rfl rfl (Nat.le_of_ble_eq_true rfl) (Nat.le_refl _) (Nat.le_refl _) (s_X8_signIn hs (by omega) ?_)
    dsimp only [psh]
    refine x_iload_n (i := 11) (pc' := 18) rfl rfl rfl rfl ?_
    refine x_icmpne (i := 12) (pc' := 21) (tgt := 24) rfl rfl (by decide) (by first | omega | exact hM _ _) (by first | omega | exact hM _ _) (fun c2 => ?_) (fun c2 => ?_)
    · first | (exfalso; omega; done) | skip
      all_goals (
        refine x_iinc (L' := [some _, some _, some _, some _]) (i := 14) (pc' := 27) rfl rfl rfl rfl (by decide) rfl ?_
        refine x_goto (i := 15) (pc' := 4) rfl (by decide) ?_
        (first | exact hk | (refine AW.le ?_ hk; simp [lvle]; done) | ((repeat' split at hk) <;> first | exact hk | (refine AW.le ?_ hk; simp [lvle]; done) | (exfalso; omega)))
        skip)
    · first | (exfalso; omega; done) | skip
      all_goals (
        refine x_iinc (L' := [some _, some _, some _, some _]) (i := 13) (pc' := 24) rfl rfl rfl rfl (by decide) rfl ?_
        refine x_iinc (L' := [some _, some _, some _, some _]) (i := 14) (pc' := 27) rfl rfl rfl rfl (by decide) rfl ?_
        refine x_goto (i := 15) (pc' := 4) rfl (by decide) ?_
        (first | exact hk | (refine AW.le ?_ hk; simp [lvle]; done) | ((repeat' split at hk) <;> first | exact hk | (refine AW.le ?_ hk; simp [lvle]; done) | (exfalso; omega)))
        skip)
  · skip
    refine x_iload_n (i := 4) (pc' := 5) rfl rfl rfl rfl ?_
    refine x_aload_n (i := 5) (pc' := 6) rfl rfl rfl rfl ?_
    refine m_getf (i := 6) (pc' := 9) rfl rfl flX8_15 (sh5 G) rfl rfl ?_
    refine x_icmpge (i := 7) (pc' := 12) (tgt := 30) rfl rfl (by decide) ⟨by omega, by omega⟩ ⟨by omega, by omega⟩ (fun c1 => ?_) (fun c1 => by exfalso; omega)
    refine x_iload_n (i := 16) (pc' := 31) rfl rfl rfl rfl ?_
    exact m_ireturn (i := 17) rfl rfl (by rw [Int.sub_zero]; exact hQ)
theorem s_X8_renumberAbove {G : GG} {m : Mem} {Q : Option Value → Mem → Prop} {a : Int} (hM : MR m) (hs : SN m) (ha : rg a) (hlo : ∀ i, 0 ≤ i → i < m 5 1 → 0 ≤ m 6 (i * 3)) (hQ : Q none (rnm m a)) : CM G 0 mX8_renumberAbove [.ref (G.2.2.2 5), .int (J (a))] m Q := by
  refine CM.of dkX8_renumberAbove (Or.inl rfl) [some _, some _, none] rfl (Nat.le_of_ble_eq_true rfl) ?_
  have hs0 := hs.1; have hs1 := hs.2
  refine x_iconst (i := 0) (pc' := 1) rfl rfl ?_
  refine x_istore_n (L' := [some _, some _, some _]) (i := 1) (pc' := 2) rfl rfl rfl rfl (by decide) rfl ?_
  skip
  refine up_ind1 (P := fun (j : Int) (x : Mem) => BW G 0 mX8_renumberAbove Q 2 [some (.ref (G.2.2.2 5)), some (.int (J (a))), some (.int (J (j)))] [] x) (fun (j : Int) (x : Mem) => if a < x 6 (j * 3) then stm x 6 (j * 3) (x 6 (j * 3) - 1) else x) (fun (j : Int) (x : Mem) => x 5 1 = m 5 1 ∧ MR x ∧ ∀ i, j ≤ i → i < m 5 1 → x 6 (i * 3) = m 6 (i * 3)) (m 5 1) (0) (m) (by omega) (⟨rfl, hM, fun _ _ _ => rfl⟩) (fun j x hj0 hj hi => by (have h7 := hlo j (by omega) (by omega); have h8 := hi.2.2 j (by omega) (by omega); have h9 := hi.2.1 6 (j * 3); split <;> first | exact ⟨hi.1, hi.2.1.st (by omega), fun i h1 h2 => by rw [stm_ix _ _ _ (by omega)]; exact hi.2.2 i (by omega) h2⟩ | exact ⟨hi.1, hi.2.1, fun i h1 h2 => hi.2.2 i (by omega) h2⟩)) (fun j x hj0 hj hi hk => ?_) (fun hi => ?_)
  · have hx := hi.1; have hR := hi.2.1
    refine x_iload_n (i := 2) (pc' := 3) rfl rfl rfl rfl ?_
    refine x_aload_n (i := 3) (pc' := 4) rfl rfl rfl rfl ?_
    refine m_getf (i := 4) (pc' := 7) rfl rfl flX8_15 (sh5 G) rfl rfl ?_
    refine x_icmpge (i := 5) (pc' := 10) (tgt := 40) rfl rfl (by decide) (by first | omega | exact hR _ _) (by first | omega | exact hR _ _) (fun c1 => by exfalso; omega) (fun c1 => ?_)
    refine x_aload_n (i := 6) (pc' := 11) rfl rfl rfl rfl ?_
    refine m_getf (i := 7) (pc' := 14) rfl rfl flX8_11 (sh5 G) rfl rfl ?_
    refine x_iload_n (i := 8) (pc' := 15) rfl rfl rfl rfl ?_
    refine x_iconst (i := 9) (pc' := 16) rfl rfl ?_
    refine x_imul (i := 10) (pc' := 17) rfl rfl ?_
    refine m_iald (i := 11) (pc' := 18) rfl rfl (sh6 G) (by decide) ⟨by omega, by omega⟩ ?_
    refine x_iload_n (i := 12) (pc' := 19) rfl rfl rfl rfl ?_
    refine x_icmple (i := 13) (pc' := 22) (tgt := 34) rfl rfl (by decide) (by first | omega | exact hR _ _) (by first | omega | exact hR _ _) (fun c2 => ?_) (fun c2 => ?_)
    · first | (exfalso; omega; done) | skip
      all_goals (
        refine x_iinc (L' := [some _, some _, some _]) (i := 24) (pc' := 37) rfl rfl rfl rfl (by decide) rfl ?_
        refine x_goto (i := 25) (pc' := 2) rfl (by decide) ?_
        (first | exact hk | (refine AW.le ?_ hk; simp [lvle]; done) | ((repeat' split at hk) <;> first | exact hk | (refine AW.le ?_ hk; simp [lvle]; done) | (exfalso; omega)))
        skip)
    · first | (exfalso; omega; done) | skip
      all_goals (
        refine x_aload_n (i := 14) (pc' := 23) rfl rfl rfl rfl ?_
        refine m_getf (i := 15) (pc' := 26) rfl rfl flX8_11 (sh5 G) rfl rfl ?_
        refine x_iload_n (i := 16) (pc' := 27) rfl rfl rfl rfl ?_
        refine x_iconst (i := 17) (pc' := 28) rfl rfl ?_
        refine x_imul (i := 18) (pc' := 29) rfl rfl ?_
        refine x_dup2 (i := 19) (pc' := 30) rfl rfl rfl rfl ?_
        refine m_iald (i := 20) (pc' := 31) rfl rfl (sh6 G) (by decide) ⟨by omega, by omega⟩ ?_
        refine x_iconst (i := 21) (pc' := 32) rfl rfl ?_
        refine x_isub (i := 22) (pc' := 33) rfl rfl ?_
        refine m_iast (i := 23) (pc' := 34) rfl rfl (sh6 G) (by decide) ⟨by omega, by omega⟩ ?_
        refine x_iinc (L' := [some _, some _, some _]) (i := 24) (pc' := 37) rfl rfl rfl rfl (by decide) rfl ?_
        refine x_goto (i := 25) (pc' := 2) rfl (by decide) ?_
        (first | exact hk | (refine AW.le ?_ hk; simp [lvle]; done) | ((repeat' split at hk) <;> first | exact hk | (refine AW.le ?_ hk; simp [lvle]; done) | (exfalso; omega)))
        skip)
  · have hx := hi.1
    refine x_iload_n (i := 2) (pc' := 3) rfl rfl rfl rfl ?_
    refine x_aload_n (i := 3) (pc' := 4) rfl rfl rfl rfl ?_
    refine m_getf (i := 4) (pc' := 7) rfl rfl flX8_15 (sh5 G) rfl rfl ?_
    refine x_icmpge (i := 5) (pc' := 10) (tgt := 40) rfl rfl (by decide) ⟨by omega, by omega⟩ ⟨by omega, by omega⟩ (fun c1 => ?_) (fun c1 => by exfalso; omega)
    exact m_return (i := 26) rfl rfl (by rw [Int.sub_zero]; exact hQ)
theorem s_X8_put {G : GG} {m : Mem} {Q : Option Value → Mem → Prop} {a k f t : Int} (ha : 0 ≤ a ∧ a ≤ 15) (hQ : Q none (putm m a k f t)) : CM G 1 mX8_put [.ref (G.2.2.2 5), .int (J (a)), .int (J (k)), .int (J (f)), .int (J (t))] m Q := by
  refine CM.of dkX8_put (Or.inl rfl) [some _, some _, some _, some _, some _] rfl (Nat.le_of_ble_eq_true rfl) ?_
  have e1 : (if 0 ≤ a ∧ a ≤ 15 then 1 else 0 : Int) = 1 := if_pos ha
  refine x_iload_n (i := 0) (pc' := 1) rfl rfl rfl rfl ?_
  refine x_iconst (i := 1) (pc' := 2) rfl rfl ?_
  refine x_bipush (i := 2) (pc' := 4) rfl rfl (by decide) ?_
  refine m_callS (i := 3) (pc' := 7) (av := [_, _, _]) (rest := []) rfl rfl (by decide) lX8_25 rfl rfl (Nat.le_of_ble_eq_true rfl) (Nat.le_refl _) (Nat.le_refl _) (s_X11_isWithin (by omega) (by omega) (by omega) ?_)
  dsimp only [psh]
  refine x_ifeq (i := 4) (pc' := 10) (tgt := 42) rfl rfl (by decide) ⟨by omega, by omega⟩ (fun c1 => ?_) (fun c1 => ?_)
  · first | (exfalso; omega; done) | skip
    all_goals (
      exact m_return (i := 30) rfl rfl (hQ)
      skip)
  · first | (exfalso; omega; done) | skip
    all_goals (
      refine x_aload_n (i := 5) (pc' := 11) rfl rfl rfl rfl ?_
      refine m_getf (i := 6) (pc' := 14) rfl rfl flX8_11 (sh5 G) rfl rfl ?_
      refine x_iload_n (i := 7) (pc' := 15) rfl rfl rfl rfl ?_
      refine x_iconst (i := 8) (pc' := 16) rfl rfl ?_
      refine x_imul (i := 9) (pc' := 17) rfl rfl ?_
      refine x_iload_n (i := 10) (pc' := 18) rfl rfl rfl rfl ?_
      refine m_iast (i := 11) (pc' := 19) rfl rfl (sh6 G) (by decide) ⟨by omega, by omega⟩ ?_
      refine x_aload_n (i := 12) (pc' := 20) rfl rfl rfl rfl ?_
      refine m_getf (i := 13) (pc' := 23) rfl rfl flX8_11 (sh5 G) rfl rfl ?_
      refine x_iload_n (i := 14) (pc' := 24) rfl rfl rfl rfl ?_
      refine x_iconst (i := 15) (pc' := 25) rfl rfl ?_
      refine x_imul (i := 16) (pc' := 26) rfl rfl ?_
      refine x_iconst (i := 17) (pc' := 27) rfl rfl ?_
      refine x_iadd (i := 18) (pc' := 28) rfl rfl ?_
      refine x_iload_n (i := 19) (pc' := 29) rfl rfl rfl rfl ?_
      refine m_iast (i := 20) (pc' := 30) rfl rfl (sh6 G) (by decide) ⟨by omega, by omega⟩ ?_
      refine x_aload_n (i := 21) (pc' := 31) rfl rfl rfl rfl ?_
      refine m_getf (i := 22) (pc' := 34) rfl rfl flX8_11 (sh5 G) rfl rfl ?_
      refine x_iload_n (i := 23) (pc' := 35) rfl rfl rfl rfl ?_
      refine x_iconst (i := 24) (pc' := 36) rfl rfl ?_
      refine x_imul (i := 25) (pc' := 37) rfl rfl ?_
      refine x_iconst (i := 26) (pc' := 38) rfl rfl ?_
      refine x_iadd (i := 27) (pc' := 39) rfl rfl ?_
      refine x_iload (i := 28) (pc' := 41) rfl rfl rfl ?_
      refine m_iast (i := 29) (pc' := 42) rfl rfl (sh6 G) (by decide) ⟨by omega, by omega⟩ ?_
      exact m_return (i := 30) rfl rfl (hQ)
      skip)
theorem s_X8_append {G : GG} {m : Mem} {Q : Option Value → Mem → Prop} {k f t : Int} (hs : SN m) (hQ : Q (some (.int (J (if m 5 1 < 16 then m 5 1 else -4)))) (if m 5 1 < 16 then apw m k f t else m)) : CM G 2 mX8_append [.ref (G.2.2.2 5), .int (J (k)), .int (J (f)), .int (J (t))] m Q := by
  refine CM.of dkX8_append (Or.inl rfl) [some _, some _, some _, some _] rfl (Nat.le_of_ble_eq_true rfl) ?_
  have hs0 := hs.1; have hs1 := hs.2
  refine x_aload_n (i := 0) (pc' := 1) rfl rfl rfl rfl ?_
  refine m_getf (i := 1) (pc' := 4) rfl rfl flX8_15 (sh5 G) rfl rfl ?_
  refine x_bipush (i := 2) (pc' := 6) rfl rfl (by decide) ?_
  refine x_icmplt (i := 3) (pc' := 9) (tgt := 12) rfl rfl (by decide) ⟨by omega, by omega⟩ ⟨by omega, by omega⟩ (fun c1 => ?_) (fun c1 => ?_)
  · skip
    refine x_aload_n (i := 6) (pc' := 13) rfl rfl rfl rfl ?_
    refine x_aload_n (i := 7) (pc' := 14) rfl rfl rfl rfl ?_
    refine m_getf (i := 8) (pc' := 17) rfl rfl flX8_15 (sh5 G) rfl rfl ?_
    refine x_iload_n (i := 9) (pc' := 18) rfl rfl rfl rfl ?_
    refine x_iload_n (i := 10) (pc' := 19) rfl rfl rfl rfl ?_
    refine x_iload_n (i := 11) (pc' := 20) rfl rfl rfl rfl ?_
    refine m_callV (i := 12) (pc' := 23) (av := [_, _, _, _]) (rest := []) rfl rfl (by decide) lX8_37 (sh5 G) rfl rfl rfl rfl rfl (Nat.le_of_ble_eq_true rfl) (Nat.le_refl _) (Nat.le_refl _) (s_X8_put (by omega) ?_)
    dsimp only [psh]
    refine x_aload_n (i := 13) (pc' := 24) rfl rfl rfl rfl ?_
    refine x_dup (i := 14) (pc' := 25) rfl rfl rfl ?_
    refine m_getf (i := 15) (pc' := 28) rfl rfl flX8_15 (sh5 G) rfl rfl ?_
    refine x_iconst (i := 16) (pc' := 29) rfl rfl ?_
    refine x_iadd (i := 17) (pc' := 30) rfl rfl ?_
    refine m_putf (kz := 1) (i := 18) (pc' := 33) rfl rfl flX8_15 (sh5 G) (fun _ => rfl) rfl (Nat.le_of_ble_eq_true rfl) rfl rfl ?_
    refine x_aload_n (i := 19) (pc' := 34) rfl rfl rfl rfl ?_
    refine m_getf (i := 20) (pc' := 37) rfl rfl flX8_15 (sh5 G) rfl rfl ?_
    refine x_iconst (i := 21) (pc' := 38) rfl rfl ?_
    refine x_isub (i := 22) (pc' := 39) rfl rfl ?_
    exact m_ireturn (i := 23) rfl rfl (by (repeat' split at hQ) <;> first | exact hQ | (exfalso; omega) | (have e9 : m 5 1 = apw m k f t 5 1 - 1 := (by rw [apw_n]; omega); rw [e9] at hQ; exact hQ))
  · skip
    refine x_bipush (i := 4) (pc' := 11) rfl rfl (by decide) ?_
    exact m_ireturn (i := 5) rfl rfl (by (repeat' split at hQ) <;> first | exact hQ | (exfalso; omega) | (have e9 : m 5 1 = apw m k f t 5 1 - 1 := (by rw [apw_n]; omega); rw [e9] at hQ; exact hQ))
theorem s_X8_moveRows {G : GG} {m : Mem} {Q : Option Value → Mem → Prop} {a b n : Int} (h1 : 0 ≤ a ∧ 0 ≤ b ∧ 0 ≤ n ∧ a + n ≤ 16 ∧ b + n ≤ 16) (hQ : Q none (mvm m a b n)) : CM G 1 mX8_moveRows [.ref (G.2.2.2 5), .int (J (a)), .int (J (b)), .int (J (n))] m Q := by
  refine CM.of dkX8_moveRows (Or.inl rfl) [some _, some _, some _, some _] rfl (Nat.le_of_ble_eq_true rfl) ?_
  refine x_aload_n (i := 0) (pc' := 1) rfl rfl rfl rfl ?_
  refine m_getf (i := 1) (pc' := 4) rfl rfl flX8_11 (sh5 G) rfl rfl ?_
  refine x_iload_n (i := 2) (pc' := 5) rfl rfl rfl rfl ?_
  refine x_iconst (i := 3) (pc' := 6) rfl rfl ?_
  refine x_imul (i := 4) (pc' := 7) rfl rfl ?_
  refine x_aload_n (i := 5) (pc' := 8) rfl rfl rfl rfl ?_
  refine m_getf (i := 6) (pc' := 11) rfl rfl flX8_11 (sh5 G) rfl rfl ?_
  refine x_iload_n (i := 7) (pc' := 12) rfl rfl rfl rfl ?_
  refine x_iconst (i := 8) (pc' := 13) rfl rfl ?_
  refine x_imul (i := 9) (pc' := 14) rfl rfl ?_
  refine x_iload_n (i := 10) (pc' := 15) rfl rfl rfl rfl ?_
  refine x_iconst (i := 11) (pc' := 16) rfl rfl ?_
  refine x_imul (i := 12) (pc' := 17) rfl rfl ?_
  refine m_copy (i := 13) (pc' := 20) rfl rfl (by decide) acX8_19 (sh6 G) (sh6 G) (by decide) (by decide) (by first | omega | (show _ ≤ ((48 : Nat) : Int); omega)) (by first | omega | (show _ ≤ ((48 : Nat) : Int); omega)) (by first | omega | (show _ ≤ ((48 : Nat) : Int); omega)) (by first | omega | (show _ ≤ ((48 : Nat) : Int); omega)) (by first | omega | (show _ ≤ ((48 : Nat) : Int); omega)) (Nat.le_of_ble_eq_true rfl) ac_n ac_s ac_i ?_
  exact m_return (i := 14) rfl rfl (hQ)
theorem s_X8_remove {G : GG} {m : Mem} {Q : Option Value → Mem → Prop} {k : Int} (hs : SN m) (h1 : rg k) (hQ : Q (some (.int (J (if 0 ≤ k ∧ k < m 5 1 then m 5 1 - 1 else -2)))) (if 0 ≤ k ∧ k < m 5 1 then rmw m k else m)) : CM G 2 mX8_remove [.ref (G.2.2.2 5), .int (J (k))] m Q := by
  refine CM.of dkX8_remove (Or.inl rfl) [some _, some _] rfl (Nat.le_of_ble_eq_true rfl) ?_
  have hs0 := hs.1; have hs1 := hs.2
  refine x_aload_n (i := 0) (pc' := 1) rfl rfl rfl rfl ?_
  refine x_iload_n (i := 1) (pc' := 2) rfl rfl rfl rfl ?_
  refine m_callV (i := 2) (pc' := 5) (av := [_]) (rest := []) rfl rfl (by decide) lX8_41 (sh5 G) rfl rfl rfl rfl rfl (Nat.le_of_ble_eq_true rfl) (Nat.le_refl _) (Nat.le_refl _) (s_X8_holds hs (by omega) ?_)
  dsimp only [psh]
  refine x_ifne (i := 3) (pc' := 8) (tgt := 11) rfl rfl (by decide) (by (repeat' split) <;> omega) (fun c1 => ?_) (fun c1 => ?_)
  · skip
    refine x_aload_n (i := 6) (pc' := 12) rfl rfl rfl rfl ?_
    refine x_iload_n (i := 7) (pc' := 13) rfl rfl rfl rfl ?_
    refine x_iconst (i := 8) (pc' := 14) rfl rfl ?_
    refine x_iadd (i := 9) (pc' := 15) rfl rfl ?_
    refine x_iload_n (i := 10) (pc' := 16) rfl rfl rfl rfl ?_
    refine x_aload_n (i := 11) (pc' := 17) rfl rfl rfl rfl ?_
    refine m_getf (i := 12) (pc' := 20) rfl rfl flX8_15 (sh5 G) rfl rfl ?_
    refine x_iconst (i := 13) (pc' := 21) rfl rfl ?_
    refine x_isub (i := 14) (pc' := 22) rfl rfl ?_
    refine x_iload_n (i := 15) (pc' := 23) rfl rfl rfl rfl ?_
    refine x_isub (i := 16) (pc' := 24) rfl rfl ?_
    refine m_callV (i := 17) (pc' := 27) (av := [_, _, _]) (rest := []) rfl rfl (by decide) lX8_45 (sh5 G) rfl rfl rfl rfl rfl (Nat.le_of_ble_eq_true rfl) (Nat.le_refl _) (Nat.le_refl _) (s_X8_moveRows (by (repeat' split at *) <;> omega) ?_)
    dsimp only [psh]
    refine x_aload_n (i := 18) (pc' := 28) rfl rfl rfl rfl ?_
    refine x_dup (i := 19) (pc' := 29) rfl rfl rfl ?_
    refine m_getf (i := 20) (pc' := 32) rfl rfl flX8_15 (sh5 G) rfl rfl ?_
    refine x_iconst (i := 21) (pc' := 33) rfl rfl ?_
    refine x_isub (i := 22) (pc' := 34) rfl rfl ?_
    refine m_putf (kz := 1) (i := 23) (pc' := 37) rfl rfl flX8_15 (sh5 G) (fun _ => rfl) rfl (Nat.le_of_ble_eq_true rfl) rfl rfl ?_
    refine x_aload_n (i := 24) (pc' := 38) rfl rfl rfl rfl ?_
    refine m_getf (i := 25) (pc' := 41) rfl rfl flX8_15 (sh5 G) rfl rfl ?_
    exact m_ireturn (i := 26) rfl rfl (by (repeat' split at hQ) <;> first | exact hQ | (exfalso; omega) | (rw [← rmw_n m k] at hQ; exact hQ))
  · skip
    refine x_bipush (i := 4) (pc' := 10) rfl rfl (by decide) ?_
    exact m_ireturn (i := 5) rfl rfl (by (repeat' split at hQ) <;> first | exact hQ | (exfalso; omega) | (rw [← rmw_n m k] at hQ; exact hQ))
theorem s_X8_move {G : GG} {m : Mem} {Q : Option Value → Mem → Prop} {i j : Int} (hs : SN m) (h1 : rg i) (h2 : rg j) (hQ : Q (some (.int (J (if (0 ≤ i ∧ i < m 5 1) ∧ (0 ≤ j ∧ j < m 5 1) then ab (i - j) else -2)))) (if (0 ≤ i ∧ i < m 5 1) ∧ (0 ≤ j ∧ j < m 5 1) then shf m i j else m)) : CM G 2 mX8_move [.ref (G.2.2.2 5), .int (J (i)), .int (J (j))] m Q := by
  refine CM.of dkX8_move (Or.inl rfl) [some _, some _, some _, none, none, none] rfl (Nat.le_of_ble_eq_true rfl) ?_
  have hs0 := hs.1; have hs1 := hs.2
  refine x_aload_n (i := 0) (pc' := 1) rfl rfl rfl rfl ?_
  refine x_iload_n (i := 1) (pc' := 2) rfl rfl rfl rfl ?_
  refine m_callV (i := 2) (pc' := 5) (av := [_]) (rest := []) rfl rfl (by decide) lX8_41 (sh5 G) rfl rfl rfl rfl rfl (Nat.le_of_ble_eq_true rfl) (Nat.le_refl _) (Nat.le_refl _) (s_X8_holds hs (by omega) ?_)
  dsimp only [psh]
  refine x_ifeq (i := 3) (pc' := 8) (tgt := 16) rfl rfl (by decide) (by (repeat' split at *) <;> omega) (fun c1 => ?_) (fun c1 => ?_)
  · skip
    refine x_bipush (i := 8) (pc' := 18) rfl rfl (by decide) ?_
    exact m_ireturn (i := 9) rfl rfl (by unfold shf at hQ; (repeat' split at hQ) <;> first | exact hQ | (exfalso; omega))
  · skip
    refine x_aload_n (i := 4) (pc' := 9) rfl rfl rfl rfl ?_
    refine x_iload_n (i := 5) (pc' := 10) rfl rfl rfl rfl ?_
    refine m_callV (i := 6) (pc' := 13) (av := [_]) (rest := []) rfl rfl (by decide) lX8_41 (sh5 G) rfl rfl rfl rfl rfl (Nat.le_of_ble_eq_true rfl) (Nat.le_refl _) (Nat.le_refl _) (s_X8_holds hs (by omega) ?_)
    dsimp only [psh]
    refine x_ifne (i := 7) (pc' := 16) (tgt := 19) rfl rfl (by decide) (by (repeat' split at *) <;> omega) (fun c2 => ?_) (fun c2 => ?_)
    · skip
      refine x_aload_n (i := 10) (pc' := 20) rfl rfl rfl rfl ?_
      refine x_iload_n (i := 11) (pc' := 21) rfl rfl rfl rfl ?_
      refine m_callV (i := 12) (pc' := 24) (av := [_]) (rest := []) rfl rfl (by decide) lX8_33 (sh5 G) rfl rfl rfl rfl rfl (Nat.le_of_ble_eq_true rfl) (Nat.le_refl _) (Nat.le_refl _) (s_X8_signIn hs (by (repeat' split at *) <;> omega) ?_)
      dsimp only [psh]
      refine x_istore_n (L' := [some _, some _, some _, some _, none, none]) (i := 13) (pc' := 25) rfl rfl rfl rfl (by decide) rfl ?_
      refine x_aload_n (i := 14) (pc' := 26) rfl rfl rfl rfl ?_
      refine x_iload_n (i := 15) (pc' := 27) rfl rfl rfl rfl ?_
      refine m_callV (i := 16) (pc' := 30) (av := [_]) (rest := []) rfl rfl (by decide) lX8_49 (sh5 G) rfl rfl rfl rfl rfl (Nat.le_of_ble_eq_true rfl) (Nat.le_refl _) (Nat.le_refl _) (s_X8_from hs (by (repeat' split at *) <;> omega) ?_)
      dsimp only [psh]
      refine x_istore (L' := [some _, some _, some _, some _, some _, none]) (i := 17) (pc' := 32) rfl rfl rfl (by decide) rfl ?_
      refine x_aload_n (i := 18) (pc' := 33) rfl rfl rfl rfl ?_
      refine x_iload_n (i := 19) (pc' := 34) rfl rfl rfl rfl ?_
      refine m_callV (i := 20) (pc' := 37) (av := [_]) (rest := []) rfl rfl (by decide) lX8_52 (sh5 G) rfl rfl rfl rfl rfl (Nat.le_of_ble_eq_true rfl) (Nat.le_refl _) (Nat.le_refl _) (s_X8_to hs (by (repeat' split at *) <;> omega) ?_)
      dsimp only [psh]
      refine x_istore (L' := [some _, some _, some _, some _, some _, some _]) (i := 21) (pc' := 39) rfl rfl rfl (by decide) rfl ?_
      refine x_iload_n (i := 22) (pc' := 40) rfl rfl rfl rfl ?_
      refine x_iload_n (i := 23) (pc' := 41) rfl rfl rfl rfl ?_
      refine x_icmpge (i := 24) (pc' := 44) (tgt := 58) rfl rfl (by decide) (by (repeat' split at *) <;> omega) (by (repeat' split at *) <;> omega) (fun c3 => ?_) (fun c3 => ?_)
      · skip
        refine x_aload_n (i := 35) (pc' := 59) rfl rfl rfl rfl ?_
        refine x_iload_n (i := 36) (pc' := 60) rfl rfl rfl rfl ?_
        refine x_iload_n (i := 37) (pc' := 61) rfl rfl rfl rfl ?_
        refine x_iconst (i := 38) (pc' := 62) rfl rfl ?_
        refine x_iadd (i := 39) (pc' := 63) rfl rfl ?_
        refine x_iload_n (i := 40) (pc' := 64) rfl rfl rfl rfl ?_
        refine x_iload_n (i := 41) (pc' := 65) rfl rfl rfl rfl ?_
        refine x_isub (i := 42) (pc' := 66) rfl rfl ?_
        refine m_callV (i := 43) (pc' := 69) (av := [_, _, _]) (rest := []) rfl rfl (by decide) lX8_45 (sh5 G) rfl rfl rfl rfl rfl (Nat.le_of_ble_eq_true rfl) (Nat.le_refl _) (Nat.le_refl _) (s_X8_moveRows (by (repeat' split at *) <;> omega) ?_)
        dsimp only [psh]
        refine x_aload_n (i := 44) (pc' := 70) rfl rfl rfl rfl ?_
        refine x_iload_n (i := 45) (pc' := 71) rfl rfl rfl rfl ?_
        refine x_iload_n (i := 46) (pc' := 72) rfl rfl rfl rfl ?_
        refine x_iload (i := 47) (pc' := 74) rfl rfl rfl ?_
        refine x_iload (i := 48) (pc' := 76) rfl rfl rfl ?_
        refine m_callV (i := 49) (pc' := 79) (av := [_, _, _, _]) (rest := []) rfl rfl (by decide) lX8_37 (sh5 G) rfl rfl rfl rfl rfl (Nat.le_of_ble_eq_true rfl) (Nat.le_refl _) (Nat.le_refl _) (s_X8_put (by (repeat' split at *) <;> omega) ?_)
        dsimp only [psh]
        refine x_iload_n (i := 50) (pc' := 80) rfl rfl rfl rfl ?_
        refine x_iload_n (i := 51) (pc' := 81) rfl rfl rfl rfl ?_
        refine x_isub (i := 52) (pc' := 82) rfl rfl ?_
        refine m_callS (i := 53) (pc' := 85) (av := [_]) (rest := []) rfl rfl (by decide) lX8_55 rfl rfl (Nat.le_of_ble_eq_true rfl) (Nat.le_refl _) (Nat.le_refl _) (s_J9_abs_0f7a4 (by (repeat' split at *) <;> omega) ?_)
        dsimp only [psh]
        exact m_ireturn (i := 54) rfl rfl (by unfold shf at hQ; (repeat' split at hQ) <;> first | exact hQ | (exfalso; omega))
      · skip
        refine x_aload_n (i := 25) (pc' := 45) rfl rfl rfl rfl ?_
        refine x_iload_n (i := 26) (pc' := 46) rfl rfl rfl rfl ?_
        refine x_iconst (i := 27) (pc' := 47) rfl rfl ?_
        refine x_iadd (i := 28) (pc' := 48) rfl rfl ?_
        refine x_iload_n (i := 29) (pc' := 49) rfl rfl rfl rfl ?_
        refine x_iload_n (i := 30) (pc' := 50) rfl rfl rfl rfl ?_
        refine x_iload_n (i := 31) (pc' := 51) rfl rfl rfl rfl ?_
        refine x_isub (i := 32) (pc' := 52) rfl rfl ?_
        refine m_callV (i := 33) (pc' := 55) (av := [_, _, _]) (rest := []) rfl rfl (by decide) lX8_45 (sh5 G) rfl rfl rfl rfl rfl (Nat.le_of_ble_eq_true rfl) (Nat.le_refl _) (Nat.le_refl _) (s_X8_moveRows (by (repeat' split at *) <;> omega) ?_)
        dsimp only [psh]
        refine x_goto (i := 34) (pc' := 69) rfl (by decide) ?_
        refine x_aload_n (i := 44) (pc' := 70) rfl rfl rfl rfl ?_
        refine x_iload_n (i := 45) (pc' := 71) rfl rfl rfl rfl ?_
        refine x_iload_n (i := 46) (pc' := 72) rfl rfl rfl rfl ?_
        refine x_iload (i := 47) (pc' := 74) rfl rfl rfl ?_
        refine x_iload (i := 48) (pc' := 76) rfl rfl rfl ?_
        refine m_callV (i := 49) (pc' := 79) (av := [_, _, _, _]) (rest := []) rfl rfl (by decide) lX8_37 (sh5 G) rfl rfl rfl rfl rfl (Nat.le_of_ble_eq_true rfl) (Nat.le_refl _) (Nat.le_refl _) (s_X8_put (by (repeat' split at *) <;> omega) ?_)
        dsimp only [psh]
        refine x_iload_n (i := 50) (pc' := 80) rfl rfl rfl rfl ?_
        refine x_iload_n (i := 51) (pc' := 81) rfl rfl rfl rfl ?_
        refine x_isub (i := 52) (pc' := 82) rfl rfl ?_
        refine m_callS (i := 53) (pc' := 85) (av := [_]) (rest := []) rfl rfl (by decide) lX8_55 rfl rfl (Nat.le_of_ble_eq_true rfl) (Nat.le_refl _) (Nat.le_refl _) (s_J9_abs_0f7a4 (by (repeat' split at *) <;> omega) ?_)
        dsimp only [psh]
        exact m_ireturn (i := 54) rfl rfl (by unfold shf at hQ; (repeat' split at hQ) <;> first | exact hQ | (exfalso; omega))
    · skip
      refine x_bipush (i := 8) (pc' := 18) rfl rfl (by decide) ?_
      exact m_ireturn (i := 9) rfl rfl (by unfold shf at hQ; (repeat' split at hQ) <;> first | exact hQ | (exfalso; omega))
theorem s_X8_removeAll {G : GG} {m : Mem} {Q : Option Value → Mem → Prop}  (hQ : Q (some (.int (J (m 5 1)))) (stm m 5 1 0)) : CM G 0 mX8_removeAll [.ref (G.2.2.2 5)] m Q := by
  refine CM.of dkX8_removeAll (Or.inl rfl) [some _, none] rfl (Nat.le_of_ble_eq_true rfl) ?_
  refine x_aload_n (i := 0) (pc' := 1) rfl rfl rfl rfl ?_
  refine m_getf (i := 1) (pc' := 4) rfl rfl flX8_15 (sh5 G) rfl rfl ?_
  refine x_istore_n (L' := [some _, some _]) (i := 2) (pc' := 5) rfl rfl rfl rfl (by decide) rfl ?_
  refine x_aload_n (i := 3) (pc' := 6) rfl rfl rfl rfl ?_
  refine x_iconst (i := 4) (pc' := 7) rfl rfl ?_
  refine m_putf (kz := 1) (i := 5) (pc' := 10) rfl rfl flX8_15 (sh5 G) (fun _ => rfl) rfl (Nat.le_of_ble_eq_true rfl) rfl rfl ?_
  refine x_iload_n (i := 6) (pc' := 11) rfl rfl rfl rfl ?_
  exact m_ireturn (i := 7) rfl rfl (hQ)
theorem s_X3_copyFrom_1_10 {G : GG} {m : Mem} {Q : Option Value → Mem → Prop}  (hQ : Q none (let m1 := sr m 3 (cpr (m 12) (m 3) 0 0 85); let m2 := sr m1 4 (cpr (m1 13) (m1 4) 0 0 4); stm m2 2 2 (m2 11 2))) : CM G 1 mX3_copyFrom [.ref (G.2.2.2 2), .ref (G.2.2.2 11)] m Q := by
  refine CM.of dkX3_copyFrom (Or.inl rfl) [some _, some _] rfl (Nat.le_of_ble_eq_true rfl) ?_
  refine x_aload_n (i := 0) (pc' := 1) rfl rfl rfl rfl ?_
  refine m_getf (i := 1) (pc' := 4) rfl rfl flX3_9 (sh11 G) rfl rfl ?_
  refine x_iconst (i := 2) (pc' := 5) rfl rfl ?_
  refine x_aload_n (i := 3) (pc' := 6) rfl rfl rfl rfl ?_
  refine m_getf (i := 4) (pc' := 9) rfl rfl flX3_9 (sh2 G) rfl rfl ?_
  refine x_iconst (i := 5) (pc' := 10) rfl rfl ?_
  refine x_aload_n (i := 6) (pc' := 11) rfl rfl rfl rfl ?_
  refine m_getf (i := 7) (pc' := 14) rfl rfl flX3_9 (sh2 G) rfl rfl ?_
  refine m_alen (i := 8) (pc' := 15) rfl rfl (sh3 G) ?_
  refine m_copy (i := 9) (pc' := 18) rfl rfl (by decide) acX3_22 (sh12 G) (sh3 G) (by decide) (by decide) (by decide) (by decide) (by decide) (by decide) (by decide) (Nat.le_of_ble_eq_true rfl) ac_n ac_s ac_i ?_
  refine x_aload_n (i := 10) (pc' := 19) rfl rfl rfl rfl ?_
  refine m_getf (i := 11) (pc' := 22) rfl rfl flX3_15 (sh11 G) rfl rfl ?_
  refine x_iconst (i := 12) (pc' := 23) rfl rfl ?_
  refine x_aload_n (i := 13) (pc' := 24) rfl rfl rfl rfl ?_
  refine m_getf (i := 14) (pc' := 27) rfl rfl flX3_15 (sh2 G) rfl rfl ?_
  refine x_iconst (i := 15) (pc' := 28) rfl rfl ?_
  refine x_iconst (i := 16) (pc' := 29) rfl rfl ?_
  refine m_copy (i := 17) (pc' := 32) rfl rfl (by decide) acX3_22 (sh13 G) (sh4 G) (by decide) (by decide) (by decide) (by decide) (by decide) (by decide) (by decide) (Nat.le_of_ble_eq_true rfl) ac_n ac_s ac_i ?_
  refine x_aload_n (i := 18) (pc' := 33) rfl rfl rfl rfl ?_
  refine x_aload_n (i := 19) (pc' := 34) rfl rfl rfl rfl ?_
  refine m_getf (i := 20) (pc' := 37) rfl rfl flX3_18 (sh11 G) rfl rfl ?_
  refine m_putf (kz := 2) (i := 21) (pc' := 40) rfl rfl flX3_18 (sh2 G) (fun _ => rfl) rfl (Nat.le_of_ble_eq_true rfl) rfl rfl ?_
  exact m_return (i := 22) rfl rfl (hQ)
theorem s_X8_copyFrom_1_10 {G : GG} {m : Mem} {Q : Option Value → Mem → Prop}  (hQ : Q none (let m1 := sr m 6 (cpr (m 15) (m 6) 0 0 48); stm m1 5 1 (m1 14 1))) : CM G 1 mX8_copyFrom [.ref (G.2.2.2 5), .ref (G.2.2.2 14)] m Q := by
  refine CM.of dkX8_copyFrom (Or.inl rfl) [some _, some _] rfl (Nat.le_of_ble_eq_true rfl) ?_
  refine x_aload_n (i := 0) (pc' := 1) rfl rfl rfl rfl ?_
  refine m_getf (i := 1) (pc' := 4) rfl rfl flX8_11 (sh14 G) rfl rfl ?_
  refine x_iconst (i := 2) (pc' := 5) rfl rfl ?_
  refine x_aload_n (i := 3) (pc' := 6) rfl rfl rfl rfl ?_
  refine m_getf (i := 4) (pc' := 9) rfl rfl flX8_11 (sh5 G) rfl rfl ?_
  refine x_iconst (i := 5) (pc' := 10) rfl rfl ?_
  refine x_aload_n (i := 6) (pc' := 11) rfl rfl rfl rfl ?_
  refine m_getf (i := 7) (pc' := 14) rfl rfl flX8_11 (sh5 G) rfl rfl ?_
  refine m_alen (i := 8) (pc' := 15) rfl rfl (sh6 G) ?_
  refine m_copy (i := 9) (pc' := 18) rfl rfl (by decide) acX8_19 (sh15 G) (sh6 G) (by decide) (by decide) (by decide) (by decide) (by decide) (by decide) (by decide) (Nat.le_of_ble_eq_true rfl) ac_n ac_s ac_i ?_
  refine x_aload_n (i := 10) (pc' := 19) rfl rfl rfl rfl ?_
  refine x_aload_n (i := 11) (pc' := 20) rfl rfl rfl rfl ?_
  refine m_getf (i := 12) (pc' := 23) rfl rfl flX8_15 (sh14 G) rfl rfl ?_
  refine m_putf (kz := 1) (i := 13) (pc' := 26) rfl rfl flX8_15 (sh5 G) (fun _ => rfl) rfl (Nat.le_of_ble_eq_true rfl) rfl rfl ?_
  exact m_return (i := 14) rfl rfl (hQ)
theorem s_X9_copyFrom_1_10 {G : GG} {m : Mem} {Q : Option Value → Mem → Prop}  (hQ : Q none (cps m 1 10)) : CM G 2 mX9_copyFrom [.ref (G.2.2.2 1), .ref (G.2.2.2 10)] m Q := by
  refine CM.of dkX9_copyFrom (Or.inl rfl) [some _, some _] rfl (Nat.le_of_ble_eq_true rfl) ?_
  refine x_aload_n (i := 0) (pc' := 1) rfl rfl rfl rfl ?_
  refine m_getf (i := 1) (pc' := 4) rfl rfl flX9_12 (sh1 G) rfl rfl ?_
  refine x_aload_n (i := 2) (pc' := 5) rfl rfl rfl rfl ?_
  refine m_getf (i := 3) (pc' := 8) rfl rfl flX9_12 (sh10 G) rfl rfl ?_
  refine m_callV (i := 4) (pc' := 11) (av := [_]) (rest := []) rfl rfl (by decide) lX9_29 (sh2 G) rfl rfl rfl rfl rfl (Nat.le_of_ble_eq_true rfl) (Nat.le_refl _) (Nat.le_refl _) (s_X3_copyFrom_1_10 ?_)
  dsimp only [psh]
  refine x_aload_n (i := 5) (pc' := 12) rfl rfl rfl rfl ?_
  refine m_getf (i := 6) (pc' := 15) rfl rfl flX9_21 (sh1 G) rfl rfl ?_
  refine x_aload_n (i := 7) (pc' := 16) rfl rfl rfl rfl ?_
  refine m_getf (i := 8) (pc' := 19) rfl rfl flX9_21 (sh10 G) rfl rfl ?_
  refine m_callV (i := 9) (pc' := 22) (av := [_]) (rest := []) rfl rfl (by decide) lX9_33 (sh5 G) rfl rfl rfl rfl rfl (Nat.le_of_ble_eq_true rfl) (Nat.le_refl _) (Nat.le_refl _) (s_X8_copyFrom_1_10 ?_)
  dsimp only [psh]
  refine x_aload_n (i := 10) (pc' := 23) rfl rfl rfl rfl ?_
  refine m_getf (i := 11) (pc' := 26) rfl rfl flX9_25 (sh10 G) rfl rfl ?_
  refine x_iconst (i := 12) (pc' := 27) rfl rfl ?_
  refine x_aload_n (i := 13) (pc' := 28) rfl rfl rfl rfl ?_
  refine m_getf (i := 14) (pc' := 31) rfl rfl flX9_25 (sh1 G) rfl rfl ?_
  refine x_iconst (i := 15) (pc' := 32) rfl rfl ?_
  refine x_bipush (i := 16) (pc' := 34) rfl rfl (by decide) ?_
  refine m_copy (i := 17) (pc' := 37) rfl rfl (by decide) acX9_36 (sh16 G) (sh7 G) (by decide) (by decide) (by decide) (by decide) (by decide) (by decide) (by decide) (Nat.le_of_ble_eq_true rfl) ac_n ac_s ac_i ?_
  exact m_return (i := 18) rfl rfl (hQ)
theorem s_X3_copyFrom_1_17 {G : GG} {m : Mem} {Q : Option Value → Mem → Prop}  (hQ : Q none (let m1 := sr m 3 (cpr (m 19) (m 3) 0 0 85); let m2 := sr m1 4 (cpr (m1 20) (m1 4) 0 0 4); stm m2 2 2 (m2 18 2))) : CM G 1 mX3_copyFrom [.ref (G.2.2.2 2), .ref (G.2.2.2 18)] m Q := by
  refine CM.of dkX3_copyFrom (Or.inl rfl) [some _, some _] rfl (Nat.le_of_ble_eq_true rfl) ?_
  refine x_aload_n (i := 0) (pc' := 1) rfl rfl rfl rfl ?_
  refine m_getf (i := 1) (pc' := 4) rfl rfl flX3_9 (sh18 G) rfl rfl ?_
  refine x_iconst (i := 2) (pc' := 5) rfl rfl ?_
  refine x_aload_n (i := 3) (pc' := 6) rfl rfl rfl rfl ?_
  refine m_getf (i := 4) (pc' := 9) rfl rfl flX3_9 (sh2 G) rfl rfl ?_
  refine x_iconst (i := 5) (pc' := 10) rfl rfl ?_
  refine x_aload_n (i := 6) (pc' := 11) rfl rfl rfl rfl ?_
  refine m_getf (i := 7) (pc' := 14) rfl rfl flX3_9 (sh2 G) rfl rfl ?_
  refine m_alen (i := 8) (pc' := 15) rfl rfl (sh3 G) ?_
  refine m_copy (i := 9) (pc' := 18) rfl rfl (by decide) acX3_22 (sh19 G) (sh3 G) (by decide) (by decide) (by decide) (by decide) (by decide) (by decide) (by decide) (Nat.le_of_ble_eq_true rfl) ac_n ac_s ac_i ?_
  refine x_aload_n (i := 10) (pc' := 19) rfl rfl rfl rfl ?_
  refine m_getf (i := 11) (pc' := 22) rfl rfl flX3_15 (sh18 G) rfl rfl ?_
  refine x_iconst (i := 12) (pc' := 23) rfl rfl ?_
  refine x_aload_n (i := 13) (pc' := 24) rfl rfl rfl rfl ?_
  refine m_getf (i := 14) (pc' := 27) rfl rfl flX3_15 (sh2 G) rfl rfl ?_
  refine x_iconst (i := 15) (pc' := 28) rfl rfl ?_
  refine x_iconst (i := 16) (pc' := 29) rfl rfl ?_
  refine m_copy (i := 17) (pc' := 32) rfl rfl (by decide) acX3_22 (sh20 G) (sh4 G) (by decide) (by decide) (by decide) (by decide) (by decide) (by decide) (by decide) (Nat.le_of_ble_eq_true rfl) ac_n ac_s ac_i ?_
  refine x_aload_n (i := 18) (pc' := 33) rfl rfl rfl rfl ?_
  refine x_aload_n (i := 19) (pc' := 34) rfl rfl rfl rfl ?_
  refine m_getf (i := 20) (pc' := 37) rfl rfl flX3_18 (sh18 G) rfl rfl ?_
  refine m_putf (kz := 2) (i := 21) (pc' := 40) rfl rfl flX3_18 (sh2 G) (fun _ => rfl) rfl (Nat.le_of_ble_eq_true rfl) rfl rfl ?_
  exact m_return (i := 22) rfl rfl (hQ)
theorem s_X8_copyFrom_1_17 {G : GG} {m : Mem} {Q : Option Value → Mem → Prop}  (hQ : Q none (let m1 := sr m 6 (cpr (m 22) (m 6) 0 0 48); stm m1 5 1 (m1 21 1))) : CM G 1 mX8_copyFrom [.ref (G.2.2.2 5), .ref (G.2.2.2 21)] m Q := by
  refine CM.of dkX8_copyFrom (Or.inl rfl) [some _, some _] rfl (Nat.le_of_ble_eq_true rfl) ?_
  refine x_aload_n (i := 0) (pc' := 1) rfl rfl rfl rfl ?_
  refine m_getf (i := 1) (pc' := 4) rfl rfl flX8_11 (sh21 G) rfl rfl ?_
  refine x_iconst (i := 2) (pc' := 5) rfl rfl ?_
  refine x_aload_n (i := 3) (pc' := 6) rfl rfl rfl rfl ?_
  refine m_getf (i := 4) (pc' := 9) rfl rfl flX8_11 (sh5 G) rfl rfl ?_
  refine x_iconst (i := 5) (pc' := 10) rfl rfl ?_
  refine x_aload_n (i := 6) (pc' := 11) rfl rfl rfl rfl ?_
  refine m_getf (i := 7) (pc' := 14) rfl rfl flX8_11 (sh5 G) rfl rfl ?_
  refine m_alen (i := 8) (pc' := 15) rfl rfl (sh6 G) ?_
  refine m_copy (i := 9) (pc' := 18) rfl rfl (by decide) acX8_19 (sh22 G) (sh6 G) (by decide) (by decide) (by decide) (by decide) (by decide) (by decide) (by decide) (Nat.le_of_ble_eq_true rfl) ac_n ac_s ac_i ?_
  refine x_aload_n (i := 10) (pc' := 19) rfl rfl rfl rfl ?_
  refine x_aload_n (i := 11) (pc' := 20) rfl rfl rfl rfl ?_
  refine m_getf (i := 12) (pc' := 23) rfl rfl flX8_15 (sh21 G) rfl rfl ?_
  refine m_putf (kz := 1) (i := 13) (pc' := 26) rfl rfl flX8_15 (sh5 G) (fun _ => rfl) rfl (Nat.le_of_ble_eq_true rfl) rfl rfl ?_
  exact m_return (i := 14) rfl rfl (hQ)
theorem s_X9_copyFrom_1_17 {G : GG} {m : Mem} {Q : Option Value → Mem → Prop}  (hQ : Q none (cps m 1 17)) : CM G 2 mX9_copyFrom [.ref (G.2.2.2 1), .ref (G.2.2.2 17)] m Q := by
  refine CM.of dkX9_copyFrom (Or.inl rfl) [some _, some _] rfl (Nat.le_of_ble_eq_true rfl) ?_
  refine x_aload_n (i := 0) (pc' := 1) rfl rfl rfl rfl ?_
  refine m_getf (i := 1) (pc' := 4) rfl rfl flX9_12 (sh1 G) rfl rfl ?_
  refine x_aload_n (i := 2) (pc' := 5) rfl rfl rfl rfl ?_
  refine m_getf (i := 3) (pc' := 8) rfl rfl flX9_12 (sh17 G) rfl rfl ?_
  refine m_callV (i := 4) (pc' := 11) (av := [_]) (rest := []) rfl rfl (by decide) lX9_29 (sh2 G) rfl rfl rfl rfl rfl (Nat.le_of_ble_eq_true rfl) (Nat.le_refl _) (Nat.le_refl _) (s_X3_copyFrom_1_17 ?_)
  dsimp only [psh]
  refine x_aload_n (i := 5) (pc' := 12) rfl rfl rfl rfl ?_
  refine m_getf (i := 6) (pc' := 15) rfl rfl flX9_21 (sh1 G) rfl rfl ?_
  refine x_aload_n (i := 7) (pc' := 16) rfl rfl rfl rfl ?_
  refine m_getf (i := 8) (pc' := 19) rfl rfl flX9_21 (sh17 G) rfl rfl ?_
  refine m_callV (i := 9) (pc' := 22) (av := [_]) (rest := []) rfl rfl (by decide) lX9_33 (sh5 G) rfl rfl rfl rfl rfl (Nat.le_of_ble_eq_true rfl) (Nat.le_refl _) (Nat.le_refl _) (s_X8_copyFrom_1_17 ?_)
  dsimp only [psh]
  refine x_aload_n (i := 10) (pc' := 23) rfl rfl rfl rfl ?_
  refine m_getf (i := 11) (pc' := 26) rfl rfl flX9_25 (sh17 G) rfl rfl ?_
  refine x_iconst (i := 12) (pc' := 27) rfl rfl ?_
  refine x_aload_n (i := 13) (pc' := 28) rfl rfl rfl rfl ?_
  refine m_getf (i := 14) (pc' := 31) rfl rfl flX9_25 (sh1 G) rfl rfl ?_
  refine x_iconst (i := 15) (pc' := 32) rfl rfl ?_
  refine x_bipush (i := 16) (pc' := 34) rfl rfl (by decide) ?_
  refine m_copy (i := 17) (pc' := 37) rfl rfl (by decide) acX9_36 (sh23 G) (sh7 G) (by decide) (by decide) (by decide) (by decide) (by decide) (by decide) (by decide) (Nat.le_of_ble_eq_true rfl) ac_n ac_s ac_i ?_
  exact m_return (i := 18) rfl rfl (hQ)
theorem s_X3_copyFrom_1_24 {G : GG} {m : Mem} {Q : Option Value → Mem → Prop}  (hQ : Q none (let m1 := sr m 3 (cpr (m 26) (m 3) 0 0 85); let m2 := sr m1 4 (cpr (m1 27) (m1 4) 0 0 4); stm m2 2 2 (m2 25 2))) : CM G 1 mX3_copyFrom [.ref (G.2.2.2 2), .ref (G.2.2.2 25)] m Q := by
  refine CM.of dkX3_copyFrom (Or.inl rfl) [some _, some _] rfl (Nat.le_of_ble_eq_true rfl) ?_
  refine x_aload_n (i := 0) (pc' := 1) rfl rfl rfl rfl ?_
  refine m_getf (i := 1) (pc' := 4) rfl rfl flX3_9 (sh25 G) rfl rfl ?_
  refine x_iconst (i := 2) (pc' := 5) rfl rfl ?_
  refine x_aload_n (i := 3) (pc' := 6) rfl rfl rfl rfl ?_
  refine m_getf (i := 4) (pc' := 9) rfl rfl flX3_9 (sh2 G) rfl rfl ?_
  refine x_iconst (i := 5) (pc' := 10) rfl rfl ?_
  refine x_aload_n (i := 6) (pc' := 11) rfl rfl rfl rfl ?_
  refine m_getf (i := 7) (pc' := 14) rfl rfl flX3_9 (sh2 G) rfl rfl ?_
  refine m_alen (i := 8) (pc' := 15) rfl rfl (sh3 G) ?_
  refine m_copy (i := 9) (pc' := 18) rfl rfl (by decide) acX3_22 (sh26 G) (sh3 G) (by decide) (by decide) (by decide) (by decide) (by decide) (by decide) (by decide) (Nat.le_of_ble_eq_true rfl) ac_n ac_s ac_i ?_
  refine x_aload_n (i := 10) (pc' := 19) rfl rfl rfl rfl ?_
  refine m_getf (i := 11) (pc' := 22) rfl rfl flX3_15 (sh25 G) rfl rfl ?_
  refine x_iconst (i := 12) (pc' := 23) rfl rfl ?_
  refine x_aload_n (i := 13) (pc' := 24) rfl rfl rfl rfl ?_
  refine m_getf (i := 14) (pc' := 27) rfl rfl flX3_15 (sh2 G) rfl rfl ?_
  refine x_iconst (i := 15) (pc' := 28) rfl rfl ?_
  refine x_iconst (i := 16) (pc' := 29) rfl rfl ?_
  refine m_copy (i := 17) (pc' := 32) rfl rfl (by decide) acX3_22 (sh27 G) (sh4 G) (by decide) (by decide) (by decide) (by decide) (by decide) (by decide) (by decide) (Nat.le_of_ble_eq_true rfl) ac_n ac_s ac_i ?_
  refine x_aload_n (i := 18) (pc' := 33) rfl rfl rfl rfl ?_
  refine x_aload_n (i := 19) (pc' := 34) rfl rfl rfl rfl ?_
  refine m_getf (i := 20) (pc' := 37) rfl rfl flX3_18 (sh25 G) rfl rfl ?_
  refine m_putf (kz := 2) (i := 21) (pc' := 40) rfl rfl flX3_18 (sh2 G) (fun _ => rfl) rfl (Nat.le_of_ble_eq_true rfl) rfl rfl ?_
  exact m_return (i := 22) rfl rfl (hQ)
theorem s_X8_copyFrom_1_24 {G : GG} {m : Mem} {Q : Option Value → Mem → Prop}  (hQ : Q none (let m1 := sr m 6 (cpr (m 29) (m 6) 0 0 48); stm m1 5 1 (m1 28 1))) : CM G 1 mX8_copyFrom [.ref (G.2.2.2 5), .ref (G.2.2.2 28)] m Q := by
  refine CM.of dkX8_copyFrom (Or.inl rfl) [some _, some _] rfl (Nat.le_of_ble_eq_true rfl) ?_
  refine x_aload_n (i := 0) (pc' := 1) rfl rfl rfl rfl ?_
  refine m_getf (i := 1) (pc' := 4) rfl rfl flX8_11 (sh28 G) rfl rfl ?_
  refine x_iconst (i := 2) (pc' := 5) rfl rfl ?_
  refine x_aload_n (i := 3) (pc' := 6) rfl rfl rfl rfl ?_
  refine m_getf (i := 4) (pc' := 9) rfl rfl flX8_11 (sh5 G) rfl rfl ?_
  refine x_iconst (i := 5) (pc' := 10) rfl rfl ?_
  refine x_aload_n (i := 6) (pc' := 11) rfl rfl rfl rfl ?_
  refine m_getf (i := 7) (pc' := 14) rfl rfl flX8_11 (sh5 G) rfl rfl ?_
  refine m_alen (i := 8) (pc' := 15) rfl rfl (sh6 G) ?_
  refine m_copy (i := 9) (pc' := 18) rfl rfl (by decide) acX8_19 (sh29 G) (sh6 G) (by decide) (by decide) (by decide) (by decide) (by decide) (by decide) (by decide) (Nat.le_of_ble_eq_true rfl) ac_n ac_s ac_i ?_
  refine x_aload_n (i := 10) (pc' := 19) rfl rfl rfl rfl ?_
  refine x_aload_n (i := 11) (pc' := 20) rfl rfl rfl rfl ?_
  refine m_getf (i := 12) (pc' := 23) rfl rfl flX8_15 (sh28 G) rfl rfl ?_
  refine m_putf (kz := 1) (i := 13) (pc' := 26) rfl rfl flX8_15 (sh5 G) (fun _ => rfl) rfl (Nat.le_of_ble_eq_true rfl) rfl rfl ?_
  exact m_return (i := 14) rfl rfl (hQ)
theorem s_X9_copyFrom_1_24 {G : GG} {m : Mem} {Q : Option Value → Mem → Prop}  (hQ : Q none (cps m 1 24)) : CM G 2 mX9_copyFrom [.ref (G.2.2.2 1), .ref (G.2.2.2 24)] m Q := by
  refine CM.of dkX9_copyFrom (Or.inl rfl) [some _, some _] rfl (Nat.le_of_ble_eq_true rfl) ?_
  refine x_aload_n (i := 0) (pc' := 1) rfl rfl rfl rfl ?_
  refine m_getf (i := 1) (pc' := 4) rfl rfl flX9_12 (sh1 G) rfl rfl ?_
  refine x_aload_n (i := 2) (pc' := 5) rfl rfl rfl rfl ?_
  refine m_getf (i := 3) (pc' := 8) rfl rfl flX9_12 (sh24 G) rfl rfl ?_
  refine m_callV (i := 4) (pc' := 11) (av := [_]) (rest := []) rfl rfl (by decide) lX9_29 (sh2 G) rfl rfl rfl rfl rfl (Nat.le_of_ble_eq_true rfl) (Nat.le_refl _) (Nat.le_refl _) (s_X3_copyFrom_1_24 ?_)
  dsimp only [psh]
  refine x_aload_n (i := 5) (pc' := 12) rfl rfl rfl rfl ?_
  refine m_getf (i := 6) (pc' := 15) rfl rfl flX9_21 (sh1 G) rfl rfl ?_
  refine x_aload_n (i := 7) (pc' := 16) rfl rfl rfl rfl ?_
  refine m_getf (i := 8) (pc' := 19) rfl rfl flX9_21 (sh24 G) rfl rfl ?_
  refine m_callV (i := 9) (pc' := 22) (av := [_]) (rest := []) rfl rfl (by decide) lX9_33 (sh5 G) rfl rfl rfl rfl rfl (Nat.le_of_ble_eq_true rfl) (Nat.le_refl _) (Nat.le_refl _) (s_X8_copyFrom_1_24 ?_)
  dsimp only [psh]
  refine x_aload_n (i := 10) (pc' := 23) rfl rfl rfl rfl ?_
  refine m_getf (i := 11) (pc' := 26) rfl rfl flX9_25 (sh24 G) rfl rfl ?_
  refine x_iconst (i := 12) (pc' := 27) rfl rfl ?_
  refine x_aload_n (i := 13) (pc' := 28) rfl rfl rfl rfl ?_
  refine m_getf (i := 14) (pc' := 31) rfl rfl flX9_25 (sh1 G) rfl rfl ?_
  refine x_iconst (i := 15) (pc' := 32) rfl rfl ?_
  refine x_bipush (i := 16) (pc' := 34) rfl rfl (by decide) ?_
  refine m_copy (i := 17) (pc' := 37) rfl rfl (by decide) acX9_36 (sh30 G) (sh7 G) (by decide) (by decide) (by decide) (by decide) (by decide) (by decide) (by decide) (Nat.le_of_ble_eq_true rfl) ac_n ac_s ac_i ?_
  exact m_return (i := 18) rfl rfl (hQ)
theorem s_X3_copyFrom_1_31 {G : GG} {m : Mem} {Q : Option Value → Mem → Prop}  (hQ : Q none (let m1 := sr m 3 (cpr (m 33) (m 3) 0 0 85); let m2 := sr m1 4 (cpr (m1 34) (m1 4) 0 0 4); stm m2 2 2 (m2 32 2))) : CM G 1 mX3_copyFrom [.ref (G.2.2.2 2), .ref (G.2.2.2 32)] m Q := by
  refine CM.of dkX3_copyFrom (Or.inl rfl) [some _, some _] rfl (Nat.le_of_ble_eq_true rfl) ?_
  refine x_aload_n (i := 0) (pc' := 1) rfl rfl rfl rfl ?_
  refine m_getf (i := 1) (pc' := 4) rfl rfl flX3_9 (sh32 G) rfl rfl ?_
  refine x_iconst (i := 2) (pc' := 5) rfl rfl ?_
  refine x_aload_n (i := 3) (pc' := 6) rfl rfl rfl rfl ?_
  refine m_getf (i := 4) (pc' := 9) rfl rfl flX3_9 (sh2 G) rfl rfl ?_
  refine x_iconst (i := 5) (pc' := 10) rfl rfl ?_
  refine x_aload_n (i := 6) (pc' := 11) rfl rfl rfl rfl ?_
  refine m_getf (i := 7) (pc' := 14) rfl rfl flX3_9 (sh2 G) rfl rfl ?_
  refine m_alen (i := 8) (pc' := 15) rfl rfl (sh3 G) ?_
  refine m_copy (i := 9) (pc' := 18) rfl rfl (by decide) acX3_22 (sh33 G) (sh3 G) (by decide) (by decide) (by decide) (by decide) (by decide) (by decide) (by decide) (Nat.le_of_ble_eq_true rfl) ac_n ac_s ac_i ?_
  refine x_aload_n (i := 10) (pc' := 19) rfl rfl rfl rfl ?_
  refine m_getf (i := 11) (pc' := 22) rfl rfl flX3_15 (sh32 G) rfl rfl ?_
  refine x_iconst (i := 12) (pc' := 23) rfl rfl ?_
  refine x_aload_n (i := 13) (pc' := 24) rfl rfl rfl rfl ?_
  refine m_getf (i := 14) (pc' := 27) rfl rfl flX3_15 (sh2 G) rfl rfl ?_
  refine x_iconst (i := 15) (pc' := 28) rfl rfl ?_
  refine x_iconst (i := 16) (pc' := 29) rfl rfl ?_
  refine m_copy (i := 17) (pc' := 32) rfl rfl (by decide) acX3_22 (sh34 G) (sh4 G) (by decide) (by decide) (by decide) (by decide) (by decide) (by decide) (by decide) (Nat.le_of_ble_eq_true rfl) ac_n ac_s ac_i ?_
  refine x_aload_n (i := 18) (pc' := 33) rfl rfl rfl rfl ?_
  refine x_aload_n (i := 19) (pc' := 34) rfl rfl rfl rfl ?_
  refine m_getf (i := 20) (pc' := 37) rfl rfl flX3_18 (sh32 G) rfl rfl ?_
  refine m_putf (kz := 2) (i := 21) (pc' := 40) rfl rfl flX3_18 (sh2 G) (fun _ => rfl) rfl (Nat.le_of_ble_eq_true rfl) rfl rfl ?_
  exact m_return (i := 22) rfl rfl (hQ)
theorem s_X8_copyFrom_1_31 {G : GG} {m : Mem} {Q : Option Value → Mem → Prop}  (hQ : Q none (let m1 := sr m 6 (cpr (m 36) (m 6) 0 0 48); stm m1 5 1 (m1 35 1))) : CM G 1 mX8_copyFrom [.ref (G.2.2.2 5), .ref (G.2.2.2 35)] m Q := by
  refine CM.of dkX8_copyFrom (Or.inl rfl) [some _, some _] rfl (Nat.le_of_ble_eq_true rfl) ?_
  refine x_aload_n (i := 0) (pc' := 1) rfl rfl rfl rfl ?_
  refine m_getf (i := 1) (pc' := 4) rfl rfl flX8_11 (sh35 G) rfl rfl ?_
  refine x_iconst (i := 2) (pc' := 5) rfl rfl ?_
  refine x_aload_n (i := 3) (pc' := 6) rfl rfl rfl rfl ?_
  refine m_getf (i := 4) (pc' := 9) rfl rfl flX8_11 (sh5 G) rfl rfl ?_
  refine x_iconst (i := 5) (pc' := 10) rfl rfl ?_
  refine x_aload_n (i := 6) (pc' := 11) rfl rfl rfl rfl ?_
  refine m_getf (i := 7) (pc' := 14) rfl rfl flX8_11 (sh5 G) rfl rfl ?_
  refine m_alen (i := 8) (pc' := 15) rfl rfl (sh6 G) ?_
  refine m_copy (i := 9) (pc' := 18) rfl rfl (by decide) acX8_19 (sh36 G) (sh6 G) (by decide) (by decide) (by decide) (by decide) (by decide) (by decide) (by decide) (Nat.le_of_ble_eq_true rfl) ac_n ac_s ac_i ?_
  refine x_aload_n (i := 10) (pc' := 19) rfl rfl rfl rfl ?_
  refine x_aload_n (i := 11) (pc' := 20) rfl rfl rfl rfl ?_
  refine m_getf (i := 12) (pc' := 23) rfl rfl flX8_15 (sh35 G) rfl rfl ?_
  refine m_putf (kz := 1) (i := 13) (pc' := 26) rfl rfl flX8_15 (sh5 G) (fun _ => rfl) rfl (Nat.le_of_ble_eq_true rfl) rfl rfl ?_
  exact m_return (i := 14) rfl rfl (hQ)
theorem s_X9_copyFrom_1_31 {G : GG} {m : Mem} {Q : Option Value → Mem → Prop}  (hQ : Q none (cps m 1 31)) : CM G 2 mX9_copyFrom [.ref (G.2.2.2 1), .ref (G.2.2.2 31)] m Q := by
  refine CM.of dkX9_copyFrom (Or.inl rfl) [some _, some _] rfl (Nat.le_of_ble_eq_true rfl) ?_
  refine x_aload_n (i := 0) (pc' := 1) rfl rfl rfl rfl ?_
  refine m_getf (i := 1) (pc' := 4) rfl rfl flX9_12 (sh1 G) rfl rfl ?_
  refine x_aload_n (i := 2) (pc' := 5) rfl rfl rfl rfl ?_
  refine m_getf (i := 3) (pc' := 8) rfl rfl flX9_12 (sh31 G) rfl rfl ?_
  refine m_callV (i := 4) (pc' := 11) (av := [_]) (rest := []) rfl rfl (by decide) lX9_29 (sh2 G) rfl rfl rfl rfl rfl (Nat.le_of_ble_eq_true rfl) (Nat.le_refl _) (Nat.le_refl _) (s_X3_copyFrom_1_31 ?_)
  dsimp only [psh]
  refine x_aload_n (i := 5) (pc' := 12) rfl rfl rfl rfl ?_
  refine m_getf (i := 6) (pc' := 15) rfl rfl flX9_21 (sh1 G) rfl rfl ?_
  refine x_aload_n (i := 7) (pc' := 16) rfl rfl rfl rfl ?_
  refine m_getf (i := 8) (pc' := 19) rfl rfl flX9_21 (sh31 G) rfl rfl ?_
  refine m_callV (i := 9) (pc' := 22) (av := [_]) (rest := []) rfl rfl (by decide) lX9_33 (sh5 G) rfl rfl rfl rfl rfl (Nat.le_of_ble_eq_true rfl) (Nat.le_refl _) (Nat.le_refl _) (s_X8_copyFrom_1_31 ?_)
  dsimp only [psh]
  refine x_aload_n (i := 10) (pc' := 23) rfl rfl rfl rfl ?_
  refine m_getf (i := 11) (pc' := 26) rfl rfl flX9_25 (sh31 G) rfl rfl ?_
  refine x_iconst (i := 12) (pc' := 27) rfl rfl ?_
  refine x_aload_n (i := 13) (pc' := 28) rfl rfl rfl rfl ?_
  refine m_getf (i := 14) (pc' := 31) rfl rfl flX9_25 (sh1 G) rfl rfl ?_
  refine x_iconst (i := 15) (pc' := 32) rfl rfl ?_
  refine x_bipush (i := 16) (pc' := 34) rfl rfl (by decide) ?_
  refine m_copy (i := 17) (pc' := 37) rfl rfl (by decide) acX9_36 (sh37 G) (sh7 G) (by decide) (by decide) (by decide) (by decide) (by decide) (by decide) (by decide) (Nat.le_of_ble_eq_true rfl) ac_n ac_s ac_i ?_
  exact m_return (i := 18) rfl rfl (hQ)
theorem s_X3_copyFrom_1_38 {G : GG} {m : Mem} {Q : Option Value → Mem → Prop}  (hQ : Q none (let m1 := sr m 3 (cpr (m 40) (m 3) 0 0 85); let m2 := sr m1 4 (cpr (m1 41) (m1 4) 0 0 4); stm m2 2 2 (m2 39 2))) : CM G 1 mX3_copyFrom [.ref (G.2.2.2 2), .ref (G.2.2.2 39)] m Q := by
  refine CM.of dkX3_copyFrom (Or.inl rfl) [some _, some _] rfl (Nat.le_of_ble_eq_true rfl) ?_
  refine x_aload_n (i := 0) (pc' := 1) rfl rfl rfl rfl ?_
  refine m_getf (i := 1) (pc' := 4) rfl rfl flX3_9 (sh39 G) rfl rfl ?_
  refine x_iconst (i := 2) (pc' := 5) rfl rfl ?_
  refine x_aload_n (i := 3) (pc' := 6) rfl rfl rfl rfl ?_
  refine m_getf (i := 4) (pc' := 9) rfl rfl flX3_9 (sh2 G) rfl rfl ?_
  refine x_iconst (i := 5) (pc' := 10) rfl rfl ?_
  refine x_aload_n (i := 6) (pc' := 11) rfl rfl rfl rfl ?_
  refine m_getf (i := 7) (pc' := 14) rfl rfl flX3_9 (sh2 G) rfl rfl ?_
  refine m_alen (i := 8) (pc' := 15) rfl rfl (sh3 G) ?_
  refine m_copy (i := 9) (pc' := 18) rfl rfl (by decide) acX3_22 (sh40 G) (sh3 G) (by decide) (by decide) (by decide) (by decide) (by decide) (by decide) (by decide) (Nat.le_of_ble_eq_true rfl) ac_n ac_s ac_i ?_
  refine x_aload_n (i := 10) (pc' := 19) rfl rfl rfl rfl ?_
  refine m_getf (i := 11) (pc' := 22) rfl rfl flX3_15 (sh39 G) rfl rfl ?_
  refine x_iconst (i := 12) (pc' := 23) rfl rfl ?_
  refine x_aload_n (i := 13) (pc' := 24) rfl rfl rfl rfl ?_
  refine m_getf (i := 14) (pc' := 27) rfl rfl flX3_15 (sh2 G) rfl rfl ?_
  refine x_iconst (i := 15) (pc' := 28) rfl rfl ?_
  refine x_iconst (i := 16) (pc' := 29) rfl rfl ?_
  refine m_copy (i := 17) (pc' := 32) rfl rfl (by decide) acX3_22 (sh41 G) (sh4 G) (by decide) (by decide) (by decide) (by decide) (by decide) (by decide) (by decide) (Nat.le_of_ble_eq_true rfl) ac_n ac_s ac_i ?_
  refine x_aload_n (i := 18) (pc' := 33) rfl rfl rfl rfl ?_
  refine x_aload_n (i := 19) (pc' := 34) rfl rfl rfl rfl ?_
  refine m_getf (i := 20) (pc' := 37) rfl rfl flX3_18 (sh39 G) rfl rfl ?_
  refine m_putf (kz := 2) (i := 21) (pc' := 40) rfl rfl flX3_18 (sh2 G) (fun _ => rfl) rfl (Nat.le_of_ble_eq_true rfl) rfl rfl ?_
  exact m_return (i := 22) rfl rfl (hQ)
theorem s_X8_copyFrom_1_38 {G : GG} {m : Mem} {Q : Option Value → Mem → Prop}  (hQ : Q none (let m1 := sr m 6 (cpr (m 43) (m 6) 0 0 48); stm m1 5 1 (m1 42 1))) : CM G 1 mX8_copyFrom [.ref (G.2.2.2 5), .ref (G.2.2.2 42)] m Q := by
  refine CM.of dkX8_copyFrom (Or.inl rfl) [some _, some _] rfl (Nat.le_of_ble_eq_true rfl) ?_
  refine x_aload_n (i := 0) (pc' := 1) rfl rfl rfl rfl ?_
  refine m_getf (i := 1) (pc' := 4) rfl rfl flX8_11 (sh42 G) rfl rfl ?_
  refine x_iconst (i := 2) (pc' := 5) rfl rfl ?_
  refine x_aload_n (i := 3) (pc' := 6) rfl rfl rfl rfl ?_
  refine m_getf (i := 4) (pc' := 9) rfl rfl flX8_11 (sh5 G) rfl rfl ?_
  refine x_iconst (i := 5) (pc' := 10) rfl rfl ?_
  refine x_aload_n (i := 6) (pc' := 11) rfl rfl rfl rfl ?_
  refine m_getf (i := 7) (pc' := 14) rfl rfl flX8_11 (sh5 G) rfl rfl ?_
  refine m_alen (i := 8) (pc' := 15) rfl rfl (sh6 G) ?_
  refine m_copy (i := 9) (pc' := 18) rfl rfl (by decide) acX8_19 (sh43 G) (sh6 G) (by decide) (by decide) (by decide) (by decide) (by decide) (by decide) (by decide) (Nat.le_of_ble_eq_true rfl) ac_n ac_s ac_i ?_
  refine x_aload_n (i := 10) (pc' := 19) rfl rfl rfl rfl ?_
  refine x_aload_n (i := 11) (pc' := 20) rfl rfl rfl rfl ?_
  refine m_getf (i := 12) (pc' := 23) rfl rfl flX8_15 (sh42 G) rfl rfl ?_
  refine m_putf (kz := 1) (i := 13) (pc' := 26) rfl rfl flX8_15 (sh5 G) (fun _ => rfl) rfl (Nat.le_of_ble_eq_true rfl) rfl rfl ?_
  exact m_return (i := 14) rfl rfl (hQ)
theorem s_X9_copyFrom_1_38 {G : GG} {m : Mem} {Q : Option Value → Mem → Prop}  (hQ : Q none (cps m 1 38)) : CM G 2 mX9_copyFrom [.ref (G.2.2.2 1), .ref (G.2.2.2 38)] m Q := by
  refine CM.of dkX9_copyFrom (Or.inl rfl) [some _, some _] rfl (Nat.le_of_ble_eq_true rfl) ?_
  refine x_aload_n (i := 0) (pc' := 1) rfl rfl rfl rfl ?_
  refine m_getf (i := 1) (pc' := 4) rfl rfl flX9_12 (sh1 G) rfl rfl ?_
  refine x_aload_n (i := 2) (pc' := 5) rfl rfl rfl rfl ?_
  refine m_getf (i := 3) (pc' := 8) rfl rfl flX9_12 (sh38 G) rfl rfl ?_
  refine m_callV (i := 4) (pc' := 11) (av := [_]) (rest := []) rfl rfl (by decide) lX9_29 (sh2 G) rfl rfl rfl rfl rfl (Nat.le_of_ble_eq_true rfl) (Nat.le_refl _) (Nat.le_refl _) (s_X3_copyFrom_1_38 ?_)
  dsimp only [psh]
  refine x_aload_n (i := 5) (pc' := 12) rfl rfl rfl rfl ?_
  refine m_getf (i := 6) (pc' := 15) rfl rfl flX9_21 (sh1 G) rfl rfl ?_
  refine x_aload_n (i := 7) (pc' := 16) rfl rfl rfl rfl ?_
  refine m_getf (i := 8) (pc' := 19) rfl rfl flX9_21 (sh38 G) rfl rfl ?_
  refine m_callV (i := 9) (pc' := 22) (av := [_]) (rest := []) rfl rfl (by decide) lX9_33 (sh5 G) rfl rfl rfl rfl rfl (Nat.le_of_ble_eq_true rfl) (Nat.le_refl _) (Nat.le_refl _) (s_X8_copyFrom_1_38 ?_)
  dsimp only [psh]
  refine x_aload_n (i := 10) (pc' := 23) rfl rfl rfl rfl ?_
  refine m_getf (i := 11) (pc' := 26) rfl rfl flX9_25 (sh38 G) rfl rfl ?_
  refine x_iconst (i := 12) (pc' := 27) rfl rfl ?_
  refine x_aload_n (i := 13) (pc' := 28) rfl rfl rfl rfl ?_
  refine m_getf (i := 14) (pc' := 31) rfl rfl flX9_25 (sh1 G) rfl rfl ?_
  refine x_iconst (i := 15) (pc' := 32) rfl rfl ?_
  refine x_bipush (i := 16) (pc' := 34) rfl rfl (by decide) ?_
  refine m_copy (i := 17) (pc' := 37) rfl rfl (by decide) acX9_36 (sh44 G) (sh7 G) (by decide) (by decide) (by decide) (by decide) (by decide) (by decide) (by decide) (Nat.le_of_ble_eq_true rfl) ac_n ac_s ac_i ?_
  exact m_return (i := 18) rfl rfl (hQ)
theorem s_X3_copyFrom_1_45 {G : GG} {m : Mem} {Q : Option Value → Mem → Prop}  (hQ : Q none (let m1 := sr m 3 (cpr (m 47) (m 3) 0 0 85); let m2 := sr m1 4 (cpr (m1 48) (m1 4) 0 0 4); stm m2 2 2 (m2 46 2))) : CM G 1 mX3_copyFrom [.ref (G.2.2.2 2), .ref (G.2.2.2 46)] m Q := by
  refine CM.of dkX3_copyFrom (Or.inl rfl) [some _, some _] rfl (Nat.le_of_ble_eq_true rfl) ?_
  refine x_aload_n (i := 0) (pc' := 1) rfl rfl rfl rfl ?_
  refine m_getf (i := 1) (pc' := 4) rfl rfl flX3_9 (sh46 G) rfl rfl ?_
  refine x_iconst (i := 2) (pc' := 5) rfl rfl ?_
  refine x_aload_n (i := 3) (pc' := 6) rfl rfl rfl rfl ?_
  refine m_getf (i := 4) (pc' := 9) rfl rfl flX3_9 (sh2 G) rfl rfl ?_
  refine x_iconst (i := 5) (pc' := 10) rfl rfl ?_
  refine x_aload_n (i := 6) (pc' := 11) rfl rfl rfl rfl ?_
  refine m_getf (i := 7) (pc' := 14) rfl rfl flX3_9 (sh2 G) rfl rfl ?_
  refine m_alen (i := 8) (pc' := 15) rfl rfl (sh3 G) ?_
  refine m_copy (i := 9) (pc' := 18) rfl rfl (by decide) acX3_22 (sh47 G) (sh3 G) (by decide) (by decide) (by decide) (by decide) (by decide) (by decide) (by decide) (Nat.le_of_ble_eq_true rfl) ac_n ac_s ac_i ?_
  refine x_aload_n (i := 10) (pc' := 19) rfl rfl rfl rfl ?_
  refine m_getf (i := 11) (pc' := 22) rfl rfl flX3_15 (sh46 G) rfl rfl ?_
  refine x_iconst (i := 12) (pc' := 23) rfl rfl ?_
  refine x_aload_n (i := 13) (pc' := 24) rfl rfl rfl rfl ?_
  refine m_getf (i := 14) (pc' := 27) rfl rfl flX3_15 (sh2 G) rfl rfl ?_
  refine x_iconst (i := 15) (pc' := 28) rfl rfl ?_
  refine x_iconst (i := 16) (pc' := 29) rfl rfl ?_
  refine m_copy (i := 17) (pc' := 32) rfl rfl (by decide) acX3_22 (sh48 G) (sh4 G) (by decide) (by decide) (by decide) (by decide) (by decide) (by decide) (by decide) (Nat.le_of_ble_eq_true rfl) ac_n ac_s ac_i ?_
  refine x_aload_n (i := 18) (pc' := 33) rfl rfl rfl rfl ?_
  refine x_aload_n (i := 19) (pc' := 34) rfl rfl rfl rfl ?_
  refine m_getf (i := 20) (pc' := 37) rfl rfl flX3_18 (sh46 G) rfl rfl ?_
  refine m_putf (kz := 2) (i := 21) (pc' := 40) rfl rfl flX3_18 (sh2 G) (fun _ => rfl) rfl (Nat.le_of_ble_eq_true rfl) rfl rfl ?_
  exact m_return (i := 22) rfl rfl (hQ)
theorem s_X8_copyFrom_1_45 {G : GG} {m : Mem} {Q : Option Value → Mem → Prop}  (hQ : Q none (let m1 := sr m 6 (cpr (m 50) (m 6) 0 0 48); stm m1 5 1 (m1 49 1))) : CM G 1 mX8_copyFrom [.ref (G.2.2.2 5), .ref (G.2.2.2 49)] m Q := by
  refine CM.of dkX8_copyFrom (Or.inl rfl) [some _, some _] rfl (Nat.le_of_ble_eq_true rfl) ?_
  refine x_aload_n (i := 0) (pc' := 1) rfl rfl rfl rfl ?_
  refine m_getf (i := 1) (pc' := 4) rfl rfl flX8_11 (sh49 G) rfl rfl ?_
  refine x_iconst (i := 2) (pc' := 5) rfl rfl ?_
  refine x_aload_n (i := 3) (pc' := 6) rfl rfl rfl rfl ?_
  refine m_getf (i := 4) (pc' := 9) rfl rfl flX8_11 (sh5 G) rfl rfl ?_
  refine x_iconst (i := 5) (pc' := 10) rfl rfl ?_
  refine x_aload_n (i := 6) (pc' := 11) rfl rfl rfl rfl ?_
  refine m_getf (i := 7) (pc' := 14) rfl rfl flX8_11 (sh5 G) rfl rfl ?_
  refine m_alen (i := 8) (pc' := 15) rfl rfl (sh6 G) ?_
  refine m_copy (i := 9) (pc' := 18) rfl rfl (by decide) acX8_19 (sh50 G) (sh6 G) (by decide) (by decide) (by decide) (by decide) (by decide) (by decide) (by decide) (Nat.le_of_ble_eq_true rfl) ac_n ac_s ac_i ?_
  refine x_aload_n (i := 10) (pc' := 19) rfl rfl rfl rfl ?_
  refine x_aload_n (i := 11) (pc' := 20) rfl rfl rfl rfl ?_
  refine m_getf (i := 12) (pc' := 23) rfl rfl flX8_15 (sh49 G) rfl rfl ?_
  refine m_putf (kz := 1) (i := 13) (pc' := 26) rfl rfl flX8_15 (sh5 G) (fun _ => rfl) rfl (Nat.le_of_ble_eq_true rfl) rfl rfl ?_
  exact m_return (i := 14) rfl rfl (hQ)
theorem s_X9_copyFrom_1_45 {G : GG} {m : Mem} {Q : Option Value → Mem → Prop}  (hQ : Q none (cps m 1 45)) : CM G 2 mX9_copyFrom [.ref (G.2.2.2 1), .ref (G.2.2.2 45)] m Q := by
  refine CM.of dkX9_copyFrom (Or.inl rfl) [some _, some _] rfl (Nat.le_of_ble_eq_true rfl) ?_
  refine x_aload_n (i := 0) (pc' := 1) rfl rfl rfl rfl ?_
  refine m_getf (i := 1) (pc' := 4) rfl rfl flX9_12 (sh1 G) rfl rfl ?_
  refine x_aload_n (i := 2) (pc' := 5) rfl rfl rfl rfl ?_
  refine m_getf (i := 3) (pc' := 8) rfl rfl flX9_12 (sh45 G) rfl rfl ?_
  refine m_callV (i := 4) (pc' := 11) (av := [_]) (rest := []) rfl rfl (by decide) lX9_29 (sh2 G) rfl rfl rfl rfl rfl (Nat.le_of_ble_eq_true rfl) (Nat.le_refl _) (Nat.le_refl _) (s_X3_copyFrom_1_45 ?_)
  dsimp only [psh]
  refine x_aload_n (i := 5) (pc' := 12) rfl rfl rfl rfl ?_
  refine m_getf (i := 6) (pc' := 15) rfl rfl flX9_21 (sh1 G) rfl rfl ?_
  refine x_aload_n (i := 7) (pc' := 16) rfl rfl rfl rfl ?_
  refine m_getf (i := 8) (pc' := 19) rfl rfl flX9_21 (sh45 G) rfl rfl ?_
  refine m_callV (i := 9) (pc' := 22) (av := [_]) (rest := []) rfl rfl (by decide) lX9_33 (sh5 G) rfl rfl rfl rfl rfl (Nat.le_of_ble_eq_true rfl) (Nat.le_refl _) (Nat.le_refl _) (s_X8_copyFrom_1_45 ?_)
  dsimp only [psh]
  refine x_aload_n (i := 10) (pc' := 23) rfl rfl rfl rfl ?_
  refine m_getf (i := 11) (pc' := 26) rfl rfl flX9_25 (sh45 G) rfl rfl ?_
  refine x_iconst (i := 12) (pc' := 27) rfl rfl ?_
  refine x_aload_n (i := 13) (pc' := 28) rfl rfl rfl rfl ?_
  refine m_getf (i := 14) (pc' := 31) rfl rfl flX9_25 (sh1 G) rfl rfl ?_
  refine x_iconst (i := 15) (pc' := 32) rfl rfl ?_
  refine x_bipush (i := 16) (pc' := 34) rfl rfl (by decide) ?_
  refine m_copy (i := 17) (pc' := 37) rfl rfl (by decide) acX9_36 (sh51 G) (sh7 G) (by decide) (by decide) (by decide) (by decide) (by decide) (by decide) (by decide) (Nat.le_of_ble_eq_true rfl) ac_n ac_s ac_i ?_
  exact m_return (i := 18) rfl rfl (hQ)
theorem s_X3_copyFrom_10_1 {G : GG} {m : Mem} {Q : Option Value → Mem → Prop}  (hQ : Q none (let m1 := sr m 12 (cpr (m 3) (m 12) 0 0 85); let m2 := sr m1 13 (cpr (m1 4) (m1 13) 0 0 4); stm m2 11 2 (m2 2 2))) : CM G 1 mX3_copyFrom [.ref (G.2.2.2 11), .ref (G.2.2.2 2)] m Q := by
  refine CM.of dkX3_copyFrom (Or.inl rfl) [some _, some _] rfl (Nat.le_of_ble_eq_true rfl) ?_
  refine x_aload_n (i := 0) (pc' := 1) rfl rfl rfl rfl ?_
  refine m_getf (i := 1) (pc' := 4) rfl rfl flX3_9 (sh2 G) rfl rfl ?_
  refine x_iconst (i := 2) (pc' := 5) rfl rfl ?_
  refine x_aload_n (i := 3) (pc' := 6) rfl rfl rfl rfl ?_
  refine m_getf (i := 4) (pc' := 9) rfl rfl flX3_9 (sh11 G) rfl rfl ?_
  refine x_iconst (i := 5) (pc' := 10) rfl rfl ?_
  refine x_aload_n (i := 6) (pc' := 11) rfl rfl rfl rfl ?_
  refine m_getf (i := 7) (pc' := 14) rfl rfl flX3_9 (sh11 G) rfl rfl ?_
  refine m_alen (i := 8) (pc' := 15) rfl rfl (sh12 G) ?_
  refine m_copy (i := 9) (pc' := 18) rfl rfl (by decide) acX3_22 (sh3 G) (sh12 G) (by decide) (by decide) (by decide) (by decide) (by decide) (by decide) (by decide) (Nat.le_of_ble_eq_true rfl) ac_n ac_s ac_i ?_
  refine x_aload_n (i := 10) (pc' := 19) rfl rfl rfl rfl ?_
  refine m_getf (i := 11) (pc' := 22) rfl rfl flX3_15 (sh2 G) rfl rfl ?_
  refine x_iconst (i := 12) (pc' := 23) rfl rfl ?_
  refine x_aload_n (i := 13) (pc' := 24) rfl rfl rfl rfl ?_
  refine m_getf (i := 14) (pc' := 27) rfl rfl flX3_15 (sh11 G) rfl rfl ?_
  refine x_iconst (i := 15) (pc' := 28) rfl rfl ?_
  refine x_iconst (i := 16) (pc' := 29) rfl rfl ?_
  refine m_copy (i := 17) (pc' := 32) rfl rfl (by decide) acX3_22 (sh4 G) (sh13 G) (by decide) (by decide) (by decide) (by decide) (by decide) (by decide) (by decide) (Nat.le_of_ble_eq_true rfl) ac_n ac_s ac_i ?_
  refine x_aload_n (i := 18) (pc' := 33) rfl rfl rfl rfl ?_
  refine x_aload_n (i := 19) (pc' := 34) rfl rfl rfl rfl ?_
  refine m_getf (i := 20) (pc' := 37) rfl rfl flX3_18 (sh2 G) rfl rfl ?_
  refine m_putf (kz := 2) (i := 21) (pc' := 40) rfl rfl flX3_18 (sh11 G) (fun _ => rfl) rfl (Nat.le_of_ble_eq_true rfl) rfl rfl ?_
  exact m_return (i := 22) rfl rfl (hQ)
theorem s_X8_copyFrom_10_1 {G : GG} {m : Mem} {Q : Option Value → Mem → Prop}  (hQ : Q none (let m1 := sr m 15 (cpr (m 6) (m 15) 0 0 48); stm m1 14 1 (m1 5 1))) : CM G 1 mX8_copyFrom [.ref (G.2.2.2 14), .ref (G.2.2.2 5)] m Q := by
  refine CM.of dkX8_copyFrom (Or.inl rfl) [some _, some _] rfl (Nat.le_of_ble_eq_true rfl) ?_
  refine x_aload_n (i := 0) (pc' := 1) rfl rfl rfl rfl ?_
  refine m_getf (i := 1) (pc' := 4) rfl rfl flX8_11 (sh5 G) rfl rfl ?_
  refine x_iconst (i := 2) (pc' := 5) rfl rfl ?_
  refine x_aload_n (i := 3) (pc' := 6) rfl rfl rfl rfl ?_
  refine m_getf (i := 4) (pc' := 9) rfl rfl flX8_11 (sh14 G) rfl rfl ?_
  refine x_iconst (i := 5) (pc' := 10) rfl rfl ?_
  refine x_aload_n (i := 6) (pc' := 11) rfl rfl rfl rfl ?_
  refine m_getf (i := 7) (pc' := 14) rfl rfl flX8_11 (sh14 G) rfl rfl ?_
  refine m_alen (i := 8) (pc' := 15) rfl rfl (sh15 G) ?_
  refine m_copy (i := 9) (pc' := 18) rfl rfl (by decide) acX8_19 (sh6 G) (sh15 G) (by decide) (by decide) (by decide) (by decide) (by decide) (by decide) (by decide) (Nat.le_of_ble_eq_true rfl) ac_n ac_s ac_i ?_
  refine x_aload_n (i := 10) (pc' := 19) rfl rfl rfl rfl ?_
  refine x_aload_n (i := 11) (pc' := 20) rfl rfl rfl rfl ?_
  refine m_getf (i := 12) (pc' := 23) rfl rfl flX8_15 (sh5 G) rfl rfl ?_
  refine m_putf (kz := 1) (i := 13) (pc' := 26) rfl rfl flX8_15 (sh14 G) (fun _ => rfl) rfl (Nat.le_of_ble_eq_true rfl) rfl rfl ?_
  exact m_return (i := 14) rfl rfl (hQ)
theorem s_X9_copyFrom_10_1 {G : GG} {m : Mem} {Q : Option Value → Mem → Prop}  (hQ : Q none (cps m 10 1)) : CM G 2 mX9_copyFrom [.ref (G.2.2.2 10), .ref (G.2.2.2 1)] m Q := by
  refine CM.of dkX9_copyFrom (Or.inl rfl) [some _, some _] rfl (Nat.le_of_ble_eq_true rfl) ?_
  refine x_aload_n (i := 0) (pc' := 1) rfl rfl rfl rfl ?_
  refine m_getf (i := 1) (pc' := 4) rfl rfl flX9_12 (sh10 G) rfl rfl ?_
  refine x_aload_n (i := 2) (pc' := 5) rfl rfl rfl rfl ?_
  refine m_getf (i := 3) (pc' := 8) rfl rfl flX9_12 (sh1 G) rfl rfl ?_
  refine m_callV (i := 4) (pc' := 11) (av := [_]) (rest := []) rfl rfl (by decide) lX9_29 (sh11 G) rfl rfl rfl rfl rfl (Nat.le_of_ble_eq_true rfl) (Nat.le_refl _) (Nat.le_refl _) (s_X3_copyFrom_10_1 ?_)
  dsimp only [psh]
  refine x_aload_n (i := 5) (pc' := 12) rfl rfl rfl rfl ?_
  refine m_getf (i := 6) (pc' := 15) rfl rfl flX9_21 (sh10 G) rfl rfl ?_
  refine x_aload_n (i := 7) (pc' := 16) rfl rfl rfl rfl ?_
  refine m_getf (i := 8) (pc' := 19) rfl rfl flX9_21 (sh1 G) rfl rfl ?_
  refine m_callV (i := 9) (pc' := 22) (av := [_]) (rest := []) rfl rfl (by decide) lX9_33 (sh14 G) rfl rfl rfl rfl rfl (Nat.le_of_ble_eq_true rfl) (Nat.le_refl _) (Nat.le_refl _) (s_X8_copyFrom_10_1 ?_)
  dsimp only [psh]
  refine x_aload_n (i := 10) (pc' := 23) rfl rfl rfl rfl ?_
  refine m_getf (i := 11) (pc' := 26) rfl rfl flX9_25 (sh1 G) rfl rfl ?_
  refine x_iconst (i := 12) (pc' := 27) rfl rfl ?_
  refine x_aload_n (i := 13) (pc' := 28) rfl rfl rfl rfl ?_
  refine m_getf (i := 14) (pc' := 31) rfl rfl flX9_25 (sh10 G) rfl rfl ?_
  refine x_iconst (i := 15) (pc' := 32) rfl rfl ?_
  refine x_bipush (i := 16) (pc' := 34) rfl rfl (by decide) ?_
  refine m_copy (i := 17) (pc' := 37) rfl rfl (by decide) acX9_36 (sh7 G) (sh16 G) (by decide) (by decide) (by decide) (by decide) (by decide) (by decide) (by decide) (Nat.le_of_ble_eq_true rfl) ac_n ac_s ac_i ?_
  exact m_return (i := 18) rfl rfl (hQ)
theorem s_X3_copyFrom_17_1 {G : GG} {m : Mem} {Q : Option Value → Mem → Prop}  (hQ : Q none (let m1 := sr m 19 (cpr (m 3) (m 19) 0 0 85); let m2 := sr m1 20 (cpr (m1 4) (m1 20) 0 0 4); stm m2 18 2 (m2 2 2))) : CM G 1 mX3_copyFrom [.ref (G.2.2.2 18), .ref (G.2.2.2 2)] m Q := by
  refine CM.of dkX3_copyFrom (Or.inl rfl) [some _, some _] rfl (Nat.le_of_ble_eq_true rfl) ?_
  refine x_aload_n (i := 0) (pc' := 1) rfl rfl rfl rfl ?_
  refine m_getf (i := 1) (pc' := 4) rfl rfl flX3_9 (sh2 G) rfl rfl ?_
  refine x_iconst (i := 2) (pc' := 5) rfl rfl ?_
  refine x_aload_n (i := 3) (pc' := 6) rfl rfl rfl rfl ?_
  refine m_getf (i := 4) (pc' := 9) rfl rfl flX3_9 (sh18 G) rfl rfl ?_
  refine x_iconst (i := 5) (pc' := 10) rfl rfl ?_
  refine x_aload_n (i := 6) (pc' := 11) rfl rfl rfl rfl ?_
  refine m_getf (i := 7) (pc' := 14) rfl rfl flX3_9 (sh18 G) rfl rfl ?_
  refine m_alen (i := 8) (pc' := 15) rfl rfl (sh19 G) ?_
  refine m_copy (i := 9) (pc' := 18) rfl rfl (by decide) acX3_22 (sh3 G) (sh19 G) (by decide) (by decide) (by decide) (by decide) (by decide) (by decide) (by decide) (Nat.le_of_ble_eq_true rfl) ac_n ac_s ac_i ?_
  refine x_aload_n (i := 10) (pc' := 19) rfl rfl rfl rfl ?_
  refine m_getf (i := 11) (pc' := 22) rfl rfl flX3_15 (sh2 G) rfl rfl ?_
  refine x_iconst (i := 12) (pc' := 23) rfl rfl ?_
  refine x_aload_n (i := 13) (pc' := 24) rfl rfl rfl rfl ?_
  refine m_getf (i := 14) (pc' := 27) rfl rfl flX3_15 (sh18 G) rfl rfl ?_
  refine x_iconst (i := 15) (pc' := 28) rfl rfl ?_
  refine x_iconst (i := 16) (pc' := 29) rfl rfl ?_
  refine m_copy (i := 17) (pc' := 32) rfl rfl (by decide) acX3_22 (sh4 G) (sh20 G) (by decide) (by decide) (by decide) (by decide) (by decide) (by decide) (by decide) (Nat.le_of_ble_eq_true rfl) ac_n ac_s ac_i ?_
  refine x_aload_n (i := 18) (pc' := 33) rfl rfl rfl rfl ?_
  refine x_aload_n (i := 19) (pc' := 34) rfl rfl rfl rfl ?_
  refine m_getf (i := 20) (pc' := 37) rfl rfl flX3_18 (sh2 G) rfl rfl ?_
  refine m_putf (kz := 2) (i := 21) (pc' := 40) rfl rfl flX3_18 (sh18 G) (fun _ => rfl) rfl (Nat.le_of_ble_eq_true rfl) rfl rfl ?_
  exact m_return (i := 22) rfl rfl (hQ)
theorem s_X8_copyFrom_17_1 {G : GG} {m : Mem} {Q : Option Value → Mem → Prop}  (hQ : Q none (let m1 := sr m 22 (cpr (m 6) (m 22) 0 0 48); stm m1 21 1 (m1 5 1))) : CM G 1 mX8_copyFrom [.ref (G.2.2.2 21), .ref (G.2.2.2 5)] m Q := by
  refine CM.of dkX8_copyFrom (Or.inl rfl) [some _, some _] rfl (Nat.le_of_ble_eq_true rfl) ?_
  refine x_aload_n (i := 0) (pc' := 1) rfl rfl rfl rfl ?_
  refine m_getf (i := 1) (pc' := 4) rfl rfl flX8_11 (sh5 G) rfl rfl ?_
  refine x_iconst (i := 2) (pc' := 5) rfl rfl ?_
  refine x_aload_n (i := 3) (pc' := 6) rfl rfl rfl rfl ?_
  refine m_getf (i := 4) (pc' := 9) rfl rfl flX8_11 (sh21 G) rfl rfl ?_
  refine x_iconst (i := 5) (pc' := 10) rfl rfl ?_
  refine x_aload_n (i := 6) (pc' := 11) rfl rfl rfl rfl ?_
  refine m_getf (i := 7) (pc' := 14) rfl rfl flX8_11 (sh21 G) rfl rfl ?_
  refine m_alen (i := 8) (pc' := 15) rfl rfl (sh22 G) ?_
  refine m_copy (i := 9) (pc' := 18) rfl rfl (by decide) acX8_19 (sh6 G) (sh22 G) (by decide) (by decide) (by decide) (by decide) (by decide) (by decide) (by decide) (Nat.le_of_ble_eq_true rfl) ac_n ac_s ac_i ?_
  refine x_aload_n (i := 10) (pc' := 19) rfl rfl rfl rfl ?_
  refine x_aload_n (i := 11) (pc' := 20) rfl rfl rfl rfl ?_
  refine m_getf (i := 12) (pc' := 23) rfl rfl flX8_15 (sh5 G) rfl rfl ?_
  refine m_putf (kz := 1) (i := 13) (pc' := 26) rfl rfl flX8_15 (sh21 G) (fun _ => rfl) rfl (Nat.le_of_ble_eq_true rfl) rfl rfl ?_
  exact m_return (i := 14) rfl rfl (hQ)
theorem s_X9_copyFrom_17_1 {G : GG} {m : Mem} {Q : Option Value → Mem → Prop}  (hQ : Q none (cps m 17 1)) : CM G 2 mX9_copyFrom [.ref (G.2.2.2 17), .ref (G.2.2.2 1)] m Q := by
  refine CM.of dkX9_copyFrom (Or.inl rfl) [some _, some _] rfl (Nat.le_of_ble_eq_true rfl) ?_
  refine x_aload_n (i := 0) (pc' := 1) rfl rfl rfl rfl ?_
  refine m_getf (i := 1) (pc' := 4) rfl rfl flX9_12 (sh17 G) rfl rfl ?_
  refine x_aload_n (i := 2) (pc' := 5) rfl rfl rfl rfl ?_
  refine m_getf (i := 3) (pc' := 8) rfl rfl flX9_12 (sh1 G) rfl rfl ?_
  refine m_callV (i := 4) (pc' := 11) (av := [_]) (rest := []) rfl rfl (by decide) lX9_29 (sh18 G) rfl rfl rfl rfl rfl (Nat.le_of_ble_eq_true rfl) (Nat.le_refl _) (Nat.le_refl _) (s_X3_copyFrom_17_1 ?_)
  dsimp only [psh]
  refine x_aload_n (i := 5) (pc' := 12) rfl rfl rfl rfl ?_
  refine m_getf (i := 6) (pc' := 15) rfl rfl flX9_21 (sh17 G) rfl rfl ?_
  refine x_aload_n (i := 7) (pc' := 16) rfl rfl rfl rfl ?_
  refine m_getf (i := 8) (pc' := 19) rfl rfl flX9_21 (sh1 G) rfl rfl ?_
  refine m_callV (i := 9) (pc' := 22) (av := [_]) (rest := []) rfl rfl (by decide) lX9_33 (sh21 G) rfl rfl rfl rfl rfl (Nat.le_of_ble_eq_true rfl) (Nat.le_refl _) (Nat.le_refl _) (s_X8_copyFrom_17_1 ?_)
  dsimp only [psh]
  refine x_aload_n (i := 10) (pc' := 23) rfl rfl rfl rfl ?_
  refine m_getf (i := 11) (pc' := 26) rfl rfl flX9_25 (sh1 G) rfl rfl ?_
  refine x_iconst (i := 12) (pc' := 27) rfl rfl ?_
  refine x_aload_n (i := 13) (pc' := 28) rfl rfl rfl rfl ?_
  refine m_getf (i := 14) (pc' := 31) rfl rfl flX9_25 (sh17 G) rfl rfl ?_
  refine x_iconst (i := 15) (pc' := 32) rfl rfl ?_
  refine x_bipush (i := 16) (pc' := 34) rfl rfl (by decide) ?_
  refine m_copy (i := 17) (pc' := 37) rfl rfl (by decide) acX9_36 (sh7 G) (sh23 G) (by decide) (by decide) (by decide) (by decide) (by decide) (by decide) (by decide) (Nat.le_of_ble_eq_true rfl) ac_n ac_s ac_i ?_
  exact m_return (i := 18) rfl rfl (hQ)
theorem s_X3_copyFrom_24_1 {G : GG} {m : Mem} {Q : Option Value → Mem → Prop}  (hQ : Q none (let m1 := sr m 26 (cpr (m 3) (m 26) 0 0 85); let m2 := sr m1 27 (cpr (m1 4) (m1 27) 0 0 4); stm m2 25 2 (m2 2 2))) : CM G 1 mX3_copyFrom [.ref (G.2.2.2 25), .ref (G.2.2.2 2)] m Q := by
  refine CM.of dkX3_copyFrom (Or.inl rfl) [some _, some _] rfl (Nat.le_of_ble_eq_true rfl) ?_
  refine x_aload_n (i := 0) (pc' := 1) rfl rfl rfl rfl ?_
  refine m_getf (i := 1) (pc' := 4) rfl rfl flX3_9 (sh2 G) rfl rfl ?_
  refine x_iconst (i := 2) (pc' := 5) rfl rfl ?_
  refine x_aload_n (i := 3) (pc' := 6) rfl rfl rfl rfl ?_
  refine m_getf (i := 4) (pc' := 9) rfl rfl flX3_9 (sh25 G) rfl rfl ?_
  refine x_iconst (i := 5) (pc' := 10) rfl rfl ?_
  refine x_aload_n (i := 6) (pc' := 11) rfl rfl rfl rfl ?_
  refine m_getf (i := 7) (pc' := 14) rfl rfl flX3_9 (sh25 G) rfl rfl ?_
  refine m_alen (i := 8) (pc' := 15) rfl rfl (sh26 G) ?_
  refine m_copy (i := 9) (pc' := 18) rfl rfl (by decide) acX3_22 (sh3 G) (sh26 G) (by decide) (by decide) (by decide) (by decide) (by decide) (by decide) (by decide) (Nat.le_of_ble_eq_true rfl) ac_n ac_s ac_i ?_
  refine x_aload_n (i := 10) (pc' := 19) rfl rfl rfl rfl ?_
  refine m_getf (i := 11) (pc' := 22) rfl rfl flX3_15 (sh2 G) rfl rfl ?_
  refine x_iconst (i := 12) (pc' := 23) rfl rfl ?_
  refine x_aload_n (i := 13) (pc' := 24) rfl rfl rfl rfl ?_
  refine m_getf (i := 14) (pc' := 27) rfl rfl flX3_15 (sh25 G) rfl rfl ?_
  refine x_iconst (i := 15) (pc' := 28) rfl rfl ?_
  refine x_iconst (i := 16) (pc' := 29) rfl rfl ?_
  refine m_copy (i := 17) (pc' := 32) rfl rfl (by decide) acX3_22 (sh4 G) (sh27 G) (by decide) (by decide) (by decide) (by decide) (by decide) (by decide) (by decide) (Nat.le_of_ble_eq_true rfl) ac_n ac_s ac_i ?_
  refine x_aload_n (i := 18) (pc' := 33) rfl rfl rfl rfl ?_
  refine x_aload_n (i := 19) (pc' := 34) rfl rfl rfl rfl ?_
  refine m_getf (i := 20) (pc' := 37) rfl rfl flX3_18 (sh2 G) rfl rfl ?_
  refine m_putf (kz := 2) (i := 21) (pc' := 40) rfl rfl flX3_18 (sh25 G) (fun _ => rfl) rfl (Nat.le_of_ble_eq_true rfl) rfl rfl ?_
  exact m_return (i := 22) rfl rfl (hQ)
theorem s_X8_copyFrom_24_1 {G : GG} {m : Mem} {Q : Option Value → Mem → Prop}  (hQ : Q none (let m1 := sr m 29 (cpr (m 6) (m 29) 0 0 48); stm m1 28 1 (m1 5 1))) : CM G 1 mX8_copyFrom [.ref (G.2.2.2 28), .ref (G.2.2.2 5)] m Q := by
  refine CM.of dkX8_copyFrom (Or.inl rfl) [some _, some _] rfl (Nat.le_of_ble_eq_true rfl) ?_
  refine x_aload_n (i := 0) (pc' := 1) rfl rfl rfl rfl ?_
  refine m_getf (i := 1) (pc' := 4) rfl rfl flX8_11 (sh5 G) rfl rfl ?_
  refine x_iconst (i := 2) (pc' := 5) rfl rfl ?_
  refine x_aload_n (i := 3) (pc' := 6) rfl rfl rfl rfl ?_
  refine m_getf (i := 4) (pc' := 9) rfl rfl flX8_11 (sh28 G) rfl rfl ?_
  refine x_iconst (i := 5) (pc' := 10) rfl rfl ?_
  refine x_aload_n (i := 6) (pc' := 11) rfl rfl rfl rfl ?_
  refine m_getf (i := 7) (pc' := 14) rfl rfl flX8_11 (sh28 G) rfl rfl ?_
  refine m_alen (i := 8) (pc' := 15) rfl rfl (sh29 G) ?_
  refine m_copy (i := 9) (pc' := 18) rfl rfl (by decide) acX8_19 (sh6 G) (sh29 G) (by decide) (by decide) (by decide) (by decide) (by decide) (by decide) (by decide) (Nat.le_of_ble_eq_true rfl) ac_n ac_s ac_i ?_
  refine x_aload_n (i := 10) (pc' := 19) rfl rfl rfl rfl ?_
  refine x_aload_n (i := 11) (pc' := 20) rfl rfl rfl rfl ?_
  refine m_getf (i := 12) (pc' := 23) rfl rfl flX8_15 (sh5 G) rfl rfl ?_
  refine m_putf (kz := 1) (i := 13) (pc' := 26) rfl rfl flX8_15 (sh28 G) (fun _ => rfl) rfl (Nat.le_of_ble_eq_true rfl) rfl rfl ?_
  exact m_return (i := 14) rfl rfl (hQ)
theorem s_X9_copyFrom_24_1 {G : GG} {m : Mem} {Q : Option Value → Mem → Prop}  (hQ : Q none (cps m 24 1)) : CM G 2 mX9_copyFrom [.ref (G.2.2.2 24), .ref (G.2.2.2 1)] m Q := by
  refine CM.of dkX9_copyFrom (Or.inl rfl) [some _, some _] rfl (Nat.le_of_ble_eq_true rfl) ?_
  refine x_aload_n (i := 0) (pc' := 1) rfl rfl rfl rfl ?_
  refine m_getf (i := 1) (pc' := 4) rfl rfl flX9_12 (sh24 G) rfl rfl ?_
  refine x_aload_n (i := 2) (pc' := 5) rfl rfl rfl rfl ?_
  refine m_getf (i := 3) (pc' := 8) rfl rfl flX9_12 (sh1 G) rfl rfl ?_
  refine m_callV (i := 4) (pc' := 11) (av := [_]) (rest := []) rfl rfl (by decide) lX9_29 (sh25 G) rfl rfl rfl rfl rfl (Nat.le_of_ble_eq_true rfl) (Nat.le_refl _) (Nat.le_refl _) (s_X3_copyFrom_24_1 ?_)
  dsimp only [psh]
  refine x_aload_n (i := 5) (pc' := 12) rfl rfl rfl rfl ?_
  refine m_getf (i := 6) (pc' := 15) rfl rfl flX9_21 (sh24 G) rfl rfl ?_
  refine x_aload_n (i := 7) (pc' := 16) rfl rfl rfl rfl ?_
  refine m_getf (i := 8) (pc' := 19) rfl rfl flX9_21 (sh1 G) rfl rfl ?_
  refine m_callV (i := 9) (pc' := 22) (av := [_]) (rest := []) rfl rfl (by decide) lX9_33 (sh28 G) rfl rfl rfl rfl rfl (Nat.le_of_ble_eq_true rfl) (Nat.le_refl _) (Nat.le_refl _) (s_X8_copyFrom_24_1 ?_)
  dsimp only [psh]
  refine x_aload_n (i := 10) (pc' := 23) rfl rfl rfl rfl ?_
  refine m_getf (i := 11) (pc' := 26) rfl rfl flX9_25 (sh1 G) rfl rfl ?_
  refine x_iconst (i := 12) (pc' := 27) rfl rfl ?_
  refine x_aload_n (i := 13) (pc' := 28) rfl rfl rfl rfl ?_
  refine m_getf (i := 14) (pc' := 31) rfl rfl flX9_25 (sh24 G) rfl rfl ?_
  refine x_iconst (i := 15) (pc' := 32) rfl rfl ?_
  refine x_bipush (i := 16) (pc' := 34) rfl rfl (by decide) ?_
  refine m_copy (i := 17) (pc' := 37) rfl rfl (by decide) acX9_36 (sh7 G) (sh30 G) (by decide) (by decide) (by decide) (by decide) (by decide) (by decide) (by decide) (Nat.le_of_ble_eq_true rfl) ac_n ac_s ac_i ?_
  exact m_return (i := 18) rfl rfl (hQ)
theorem s_X3_copyFrom_31_1 {G : GG} {m : Mem} {Q : Option Value → Mem → Prop}  (hQ : Q none (let m1 := sr m 33 (cpr (m 3) (m 33) 0 0 85); let m2 := sr m1 34 (cpr (m1 4) (m1 34) 0 0 4); stm m2 32 2 (m2 2 2))) : CM G 1 mX3_copyFrom [.ref (G.2.2.2 32), .ref (G.2.2.2 2)] m Q := by
  refine CM.of dkX3_copyFrom (Or.inl rfl) [some _, some _] rfl (Nat.le_of_ble_eq_true rfl) ?_
  refine x_aload_n (i := 0) (pc' := 1) rfl rfl rfl rfl ?_
  refine m_getf (i := 1) (pc' := 4) rfl rfl flX3_9 (sh2 G) rfl rfl ?_
  refine x_iconst (i := 2) (pc' := 5) rfl rfl ?_
  refine x_aload_n (i := 3) (pc' := 6) rfl rfl rfl rfl ?_
  refine m_getf (i := 4) (pc' := 9) rfl rfl flX3_9 (sh32 G) rfl rfl ?_
  refine x_iconst (i := 5) (pc' := 10) rfl rfl ?_
  refine x_aload_n (i := 6) (pc' := 11) rfl rfl rfl rfl ?_
  refine m_getf (i := 7) (pc' := 14) rfl rfl flX3_9 (sh32 G) rfl rfl ?_
  refine m_alen (i := 8) (pc' := 15) rfl rfl (sh33 G) ?_
  refine m_copy (i := 9) (pc' := 18) rfl rfl (by decide) acX3_22 (sh3 G) (sh33 G) (by decide) (by decide) (by decide) (by decide) (by decide) (by decide) (by decide) (Nat.le_of_ble_eq_true rfl) ac_n ac_s ac_i ?_
  refine x_aload_n (i := 10) (pc' := 19) rfl rfl rfl rfl ?_
  refine m_getf (i := 11) (pc' := 22) rfl rfl flX3_15 (sh2 G) rfl rfl ?_
  refine x_iconst (i := 12) (pc' := 23) rfl rfl ?_
  refine x_aload_n (i := 13) (pc' := 24) rfl rfl rfl rfl ?_
  refine m_getf (i := 14) (pc' := 27) rfl rfl flX3_15 (sh32 G) rfl rfl ?_
  refine x_iconst (i := 15) (pc' := 28) rfl rfl ?_
  refine x_iconst (i := 16) (pc' := 29) rfl rfl ?_
  refine m_copy (i := 17) (pc' := 32) rfl rfl (by decide) acX3_22 (sh4 G) (sh34 G) (by decide) (by decide) (by decide) (by decide) (by decide) (by decide) (by decide) (Nat.le_of_ble_eq_true rfl) ac_n ac_s ac_i ?_
  refine x_aload_n (i := 18) (pc' := 33) rfl rfl rfl rfl ?_
  refine x_aload_n (i := 19) (pc' := 34) rfl rfl rfl rfl ?_
  refine m_getf (i := 20) (pc' := 37) rfl rfl flX3_18 (sh2 G) rfl rfl ?_
  refine m_putf (kz := 2) (i := 21) (pc' := 40) rfl rfl flX3_18 (sh32 G) (fun _ => rfl) rfl (Nat.le_of_ble_eq_true rfl) rfl rfl ?_
  exact m_return (i := 22) rfl rfl (hQ)
theorem s_X8_copyFrom_31_1 {G : GG} {m : Mem} {Q : Option Value → Mem → Prop}  (hQ : Q none (let m1 := sr m 36 (cpr (m 6) (m 36) 0 0 48); stm m1 35 1 (m1 5 1))) : CM G 1 mX8_copyFrom [.ref (G.2.2.2 35), .ref (G.2.2.2 5)] m Q := by
  refine CM.of dkX8_copyFrom (Or.inl rfl) [some _, some _] rfl (Nat.le_of_ble_eq_true rfl) ?_
  refine x_aload_n (i := 0) (pc' := 1) rfl rfl rfl rfl ?_
  refine m_getf (i := 1) (pc' := 4) rfl rfl flX8_11 (sh5 G) rfl rfl ?_
  refine x_iconst (i := 2) (pc' := 5) rfl rfl ?_
  refine x_aload_n (i := 3) (pc' := 6) rfl rfl rfl rfl ?_
  refine m_getf (i := 4) (pc' := 9) rfl rfl flX8_11 (sh35 G) rfl rfl ?_
  refine x_iconst (i := 5) (pc' := 10) rfl rfl ?_
  refine x_aload_n (i := 6) (pc' := 11) rfl rfl rfl rfl ?_
  refine m_getf (i := 7) (pc' := 14) rfl rfl flX8_11 (sh35 G) rfl rfl ?_
  refine m_alen (i := 8) (pc' := 15) rfl rfl (sh36 G) ?_
  refine m_copy (i := 9) (pc' := 18) rfl rfl (by decide) acX8_19 (sh6 G) (sh36 G) (by decide) (by decide) (by decide) (by decide) (by decide) (by decide) (by decide) (Nat.le_of_ble_eq_true rfl) ac_n ac_s ac_i ?_
  refine x_aload_n (i := 10) (pc' := 19) rfl rfl rfl rfl ?_
  refine x_aload_n (i := 11) (pc' := 20) rfl rfl rfl rfl ?_
  refine m_getf (i := 12) (pc' := 23) rfl rfl flX8_15 (sh5 G) rfl rfl ?_
  refine m_putf (kz := 1) (i := 13) (pc' := 26) rfl rfl flX8_15 (sh35 G) (fun _ => rfl) rfl (Nat.le_of_ble_eq_true rfl) rfl rfl ?_
  exact m_return (i := 14) rfl rfl (hQ)
theorem s_X9_copyFrom_31_1 {G : GG} {m : Mem} {Q : Option Value → Mem → Prop}  (hQ : Q none (cps m 31 1)) : CM G 2 mX9_copyFrom [.ref (G.2.2.2 31), .ref (G.2.2.2 1)] m Q := by
  refine CM.of dkX9_copyFrom (Or.inl rfl) [some _, some _] rfl (Nat.le_of_ble_eq_true rfl) ?_
  refine x_aload_n (i := 0) (pc' := 1) rfl rfl rfl rfl ?_
  refine m_getf (i := 1) (pc' := 4) rfl rfl flX9_12 (sh31 G) rfl rfl ?_
  refine x_aload_n (i := 2) (pc' := 5) rfl rfl rfl rfl ?_
  refine m_getf (i := 3) (pc' := 8) rfl rfl flX9_12 (sh1 G) rfl rfl ?_
  refine m_callV (i := 4) (pc' := 11) (av := [_]) (rest := []) rfl rfl (by decide) lX9_29 (sh32 G) rfl rfl rfl rfl rfl (Nat.le_of_ble_eq_true rfl) (Nat.le_refl _) (Nat.le_refl _) (s_X3_copyFrom_31_1 ?_)
  dsimp only [psh]
  refine x_aload_n (i := 5) (pc' := 12) rfl rfl rfl rfl ?_
  refine m_getf (i := 6) (pc' := 15) rfl rfl flX9_21 (sh31 G) rfl rfl ?_
  refine x_aload_n (i := 7) (pc' := 16) rfl rfl rfl rfl ?_
  refine m_getf (i := 8) (pc' := 19) rfl rfl flX9_21 (sh1 G) rfl rfl ?_
  refine m_callV (i := 9) (pc' := 22) (av := [_]) (rest := []) rfl rfl (by decide) lX9_33 (sh35 G) rfl rfl rfl rfl rfl (Nat.le_of_ble_eq_true rfl) (Nat.le_refl _) (Nat.le_refl _) (s_X8_copyFrom_31_1 ?_)
  dsimp only [psh]
  refine x_aload_n (i := 10) (pc' := 23) rfl rfl rfl rfl ?_
  refine m_getf (i := 11) (pc' := 26) rfl rfl flX9_25 (sh1 G) rfl rfl ?_
  refine x_iconst (i := 12) (pc' := 27) rfl rfl ?_
  refine x_aload_n (i := 13) (pc' := 28) rfl rfl rfl rfl ?_
  refine m_getf (i := 14) (pc' := 31) rfl rfl flX9_25 (sh31 G) rfl rfl ?_
  refine x_iconst (i := 15) (pc' := 32) rfl rfl ?_
  refine x_bipush (i := 16) (pc' := 34) rfl rfl (by decide) ?_
  refine m_copy (i := 17) (pc' := 37) rfl rfl (by decide) acX9_36 (sh7 G) (sh37 G) (by decide) (by decide) (by decide) (by decide) (by decide) (by decide) (by decide) (Nat.le_of_ble_eq_true rfl) ac_n ac_s ac_i ?_
  exact m_return (i := 18) rfl rfl (hQ)
theorem s_X3_copyFrom_38_1 {G : GG} {m : Mem} {Q : Option Value → Mem → Prop}  (hQ : Q none (let m1 := sr m 40 (cpr (m 3) (m 40) 0 0 85); let m2 := sr m1 41 (cpr (m1 4) (m1 41) 0 0 4); stm m2 39 2 (m2 2 2))) : CM G 1 mX3_copyFrom [.ref (G.2.2.2 39), .ref (G.2.2.2 2)] m Q := by
  refine CM.of dkX3_copyFrom (Or.inl rfl) [some _, some _] rfl (Nat.le_of_ble_eq_true rfl) ?_
  refine x_aload_n (i := 0) (pc' := 1) rfl rfl rfl rfl ?_
  refine m_getf (i := 1) (pc' := 4) rfl rfl flX3_9 (sh2 G) rfl rfl ?_
  refine x_iconst (i := 2) (pc' := 5) rfl rfl ?_
  refine x_aload_n (i := 3) (pc' := 6) rfl rfl rfl rfl ?_
  refine m_getf (i := 4) (pc' := 9) rfl rfl flX3_9 (sh39 G) rfl rfl ?_
  refine x_iconst (i := 5) (pc' := 10) rfl rfl ?_
  refine x_aload_n (i := 6) (pc' := 11) rfl rfl rfl rfl ?_
  refine m_getf (i := 7) (pc' := 14) rfl rfl flX3_9 (sh39 G) rfl rfl ?_
  refine m_alen (i := 8) (pc' := 15) rfl rfl (sh40 G) ?_
  refine m_copy (i := 9) (pc' := 18) rfl rfl (by decide) acX3_22 (sh3 G) (sh40 G) (by decide) (by decide) (by decide) (by decide) (by decide) (by decide) (by decide) (Nat.le_of_ble_eq_true rfl) ac_n ac_s ac_i ?_
  refine x_aload_n (i := 10) (pc' := 19) rfl rfl rfl rfl ?_
  refine m_getf (i := 11) (pc' := 22) rfl rfl flX3_15 (sh2 G) rfl rfl ?_
  refine x_iconst (i := 12) (pc' := 23) rfl rfl ?_
  refine x_aload_n (i := 13) (pc' := 24) rfl rfl rfl rfl ?_
  refine m_getf (i := 14) (pc' := 27) rfl rfl flX3_15 (sh39 G) rfl rfl ?_
  refine x_iconst (i := 15) (pc' := 28) rfl rfl ?_
  refine x_iconst (i := 16) (pc' := 29) rfl rfl ?_
  refine m_copy (i := 17) (pc' := 32) rfl rfl (by decide) acX3_22 (sh4 G) (sh41 G) (by decide) (by decide) (by decide) (by decide) (by decide) (by decide) (by decide) (Nat.le_of_ble_eq_true rfl) ac_n ac_s ac_i ?_
  refine x_aload_n (i := 18) (pc' := 33) rfl rfl rfl rfl ?_
  refine x_aload_n (i := 19) (pc' := 34) rfl rfl rfl rfl ?_
  refine m_getf (i := 20) (pc' := 37) rfl rfl flX3_18 (sh2 G) rfl rfl ?_
  refine m_putf (kz := 2) (i := 21) (pc' := 40) rfl rfl flX3_18 (sh39 G) (fun _ => rfl) rfl (Nat.le_of_ble_eq_true rfl) rfl rfl ?_
  exact m_return (i := 22) rfl rfl (hQ)
theorem s_X8_copyFrom_38_1 {G : GG} {m : Mem} {Q : Option Value → Mem → Prop}  (hQ : Q none (let m1 := sr m 43 (cpr (m 6) (m 43) 0 0 48); stm m1 42 1 (m1 5 1))) : CM G 1 mX8_copyFrom [.ref (G.2.2.2 42), .ref (G.2.2.2 5)] m Q := by
  refine CM.of dkX8_copyFrom (Or.inl rfl) [some _, some _] rfl (Nat.le_of_ble_eq_true rfl) ?_
  refine x_aload_n (i := 0) (pc' := 1) rfl rfl rfl rfl ?_
  refine m_getf (i := 1) (pc' := 4) rfl rfl flX8_11 (sh5 G) rfl rfl ?_
  refine x_iconst (i := 2) (pc' := 5) rfl rfl ?_
  refine x_aload_n (i := 3) (pc' := 6) rfl rfl rfl rfl ?_
  refine m_getf (i := 4) (pc' := 9) rfl rfl flX8_11 (sh42 G) rfl rfl ?_
  refine x_iconst (i := 5) (pc' := 10) rfl rfl ?_
  refine x_aload_n (i := 6) (pc' := 11) rfl rfl rfl rfl ?_
  refine m_getf (i := 7) (pc' := 14) rfl rfl flX8_11 (sh42 G) rfl rfl ?_
  refine m_alen (i := 8) (pc' := 15) rfl rfl (sh43 G) ?_
  refine m_copy (i := 9) (pc' := 18) rfl rfl (by decide) acX8_19 (sh6 G) (sh43 G) (by decide) (by decide) (by decide) (by decide) (by decide) (by decide) (by decide) (Nat.le_of_ble_eq_true rfl) ac_n ac_s ac_i ?_
  refine x_aload_n (i := 10) (pc' := 19) rfl rfl rfl rfl ?_
  refine x_aload_n (i := 11) (pc' := 20) rfl rfl rfl rfl ?_
  refine m_getf (i := 12) (pc' := 23) rfl rfl flX8_15 (sh5 G) rfl rfl ?_
  refine m_putf (kz := 1) (i := 13) (pc' := 26) rfl rfl flX8_15 (sh42 G) (fun _ => rfl) rfl (Nat.le_of_ble_eq_true rfl) rfl rfl ?_
  exact m_return (i := 14) rfl rfl (hQ)
theorem s_X9_copyFrom_38_1 {G : GG} {m : Mem} {Q : Option Value → Mem → Prop}  (hQ : Q none (cps m 38 1)) : CM G 2 mX9_copyFrom [.ref (G.2.2.2 38), .ref (G.2.2.2 1)] m Q := by
  refine CM.of dkX9_copyFrom (Or.inl rfl) [some _, some _] rfl (Nat.le_of_ble_eq_true rfl) ?_
  refine x_aload_n (i := 0) (pc' := 1) rfl rfl rfl rfl ?_
  refine m_getf (i := 1) (pc' := 4) rfl rfl flX9_12 (sh38 G) rfl rfl ?_
  refine x_aload_n (i := 2) (pc' := 5) rfl rfl rfl rfl ?_
  refine m_getf (i := 3) (pc' := 8) rfl rfl flX9_12 (sh1 G) rfl rfl ?_
  refine m_callV (i := 4) (pc' := 11) (av := [_]) (rest := []) rfl rfl (by decide) lX9_29 (sh39 G) rfl rfl rfl rfl rfl (Nat.le_of_ble_eq_true rfl) (Nat.le_refl _) (Nat.le_refl _) (s_X3_copyFrom_38_1 ?_)
  dsimp only [psh]
  refine x_aload_n (i := 5) (pc' := 12) rfl rfl rfl rfl ?_
  refine m_getf (i := 6) (pc' := 15) rfl rfl flX9_21 (sh38 G) rfl rfl ?_
  refine x_aload_n (i := 7) (pc' := 16) rfl rfl rfl rfl ?_
  refine m_getf (i := 8) (pc' := 19) rfl rfl flX9_21 (sh1 G) rfl rfl ?_
  refine m_callV (i := 9) (pc' := 22) (av := [_]) (rest := []) rfl rfl (by decide) lX9_33 (sh42 G) rfl rfl rfl rfl rfl (Nat.le_of_ble_eq_true rfl) (Nat.le_refl _) (Nat.le_refl _) (s_X8_copyFrom_38_1 ?_)
  dsimp only [psh]
  refine x_aload_n (i := 10) (pc' := 23) rfl rfl rfl rfl ?_
  refine m_getf (i := 11) (pc' := 26) rfl rfl flX9_25 (sh1 G) rfl rfl ?_
  refine x_iconst (i := 12) (pc' := 27) rfl rfl ?_
  refine x_aload_n (i := 13) (pc' := 28) rfl rfl rfl rfl ?_
  refine m_getf (i := 14) (pc' := 31) rfl rfl flX9_25 (sh38 G) rfl rfl ?_
  refine x_iconst (i := 15) (pc' := 32) rfl rfl ?_
  refine x_bipush (i := 16) (pc' := 34) rfl rfl (by decide) ?_
  refine m_copy (i := 17) (pc' := 37) rfl rfl (by decide) acX9_36 (sh7 G) (sh44 G) (by decide) (by decide) (by decide) (by decide) (by decide) (by decide) (by decide) (Nat.le_of_ble_eq_true rfl) ac_n ac_s ac_i ?_
  exact m_return (i := 18) rfl rfl (hQ)
theorem s_X3_copyFrom_45_1 {G : GG} {m : Mem} {Q : Option Value → Mem → Prop}  (hQ : Q none (let m1 := sr m 47 (cpr (m 3) (m 47) 0 0 85); let m2 := sr m1 48 (cpr (m1 4) (m1 48) 0 0 4); stm m2 46 2 (m2 2 2))) : CM G 1 mX3_copyFrom [.ref (G.2.2.2 46), .ref (G.2.2.2 2)] m Q := by
  refine CM.of dkX3_copyFrom (Or.inl rfl) [some _, some _] rfl (Nat.le_of_ble_eq_true rfl) ?_
  refine x_aload_n (i := 0) (pc' := 1) rfl rfl rfl rfl ?_
  refine m_getf (i := 1) (pc' := 4) rfl rfl flX3_9 (sh2 G) rfl rfl ?_
  refine x_iconst (i := 2) (pc' := 5) rfl rfl ?_
  refine x_aload_n (i := 3) (pc' := 6) rfl rfl rfl rfl ?_
  refine m_getf (i := 4) (pc' := 9) rfl rfl flX3_9 (sh46 G) rfl rfl ?_
  refine x_iconst (i := 5) (pc' := 10) rfl rfl ?_
  refine x_aload_n (i := 6) (pc' := 11) rfl rfl rfl rfl ?_
  refine m_getf (i := 7) (pc' := 14) rfl rfl flX3_9 (sh46 G) rfl rfl ?_
  refine m_alen (i := 8) (pc' := 15) rfl rfl (sh47 G) ?_
  refine m_copy (i := 9) (pc' := 18) rfl rfl (by decide) acX3_22 (sh3 G) (sh47 G) (by decide) (by decide) (by decide) (by decide) (by decide) (by decide) (by decide) (Nat.le_of_ble_eq_true rfl) ac_n ac_s ac_i ?_
  refine x_aload_n (i := 10) (pc' := 19) rfl rfl rfl rfl ?_
  refine m_getf (i := 11) (pc' := 22) rfl rfl flX3_15 (sh2 G) rfl rfl ?_
  refine x_iconst (i := 12) (pc' := 23) rfl rfl ?_
  refine x_aload_n (i := 13) (pc' := 24) rfl rfl rfl rfl ?_
  refine m_getf (i := 14) (pc' := 27) rfl rfl flX3_15 (sh46 G) rfl rfl ?_
  refine x_iconst (i := 15) (pc' := 28) rfl rfl ?_
  refine x_iconst (i := 16) (pc' := 29) rfl rfl ?_
  refine m_copy (i := 17) (pc' := 32) rfl rfl (by decide) acX3_22 (sh4 G) (sh48 G) (by decide) (by decide) (by decide) (by decide) (by decide) (by decide) (by decide) (Nat.le_of_ble_eq_true rfl) ac_n ac_s ac_i ?_
  refine x_aload_n (i := 18) (pc' := 33) rfl rfl rfl rfl ?_
  refine x_aload_n (i := 19) (pc' := 34) rfl rfl rfl rfl ?_
  refine m_getf (i := 20) (pc' := 37) rfl rfl flX3_18 (sh2 G) rfl rfl ?_
  refine m_putf (kz := 2) (i := 21) (pc' := 40) rfl rfl flX3_18 (sh46 G) (fun _ => rfl) rfl (Nat.le_of_ble_eq_true rfl) rfl rfl ?_
  exact m_return (i := 22) rfl rfl (hQ)
theorem s_X8_copyFrom_45_1 {G : GG} {m : Mem} {Q : Option Value → Mem → Prop}  (hQ : Q none (let m1 := sr m 50 (cpr (m 6) (m 50) 0 0 48); stm m1 49 1 (m1 5 1))) : CM G 1 mX8_copyFrom [.ref (G.2.2.2 49), .ref (G.2.2.2 5)] m Q := by
  refine CM.of dkX8_copyFrom (Or.inl rfl) [some _, some _] rfl (Nat.le_of_ble_eq_true rfl) ?_
  refine x_aload_n (i := 0) (pc' := 1) rfl rfl rfl rfl ?_
  refine m_getf (i := 1) (pc' := 4) rfl rfl flX8_11 (sh5 G) rfl rfl ?_
  refine x_iconst (i := 2) (pc' := 5) rfl rfl ?_
  refine x_aload_n (i := 3) (pc' := 6) rfl rfl rfl rfl ?_
  refine m_getf (i := 4) (pc' := 9) rfl rfl flX8_11 (sh49 G) rfl rfl ?_
  refine x_iconst (i := 5) (pc' := 10) rfl rfl ?_
  refine x_aload_n (i := 6) (pc' := 11) rfl rfl rfl rfl ?_
  refine m_getf (i := 7) (pc' := 14) rfl rfl flX8_11 (sh49 G) rfl rfl ?_
  refine m_alen (i := 8) (pc' := 15) rfl rfl (sh50 G) ?_
  refine m_copy (i := 9) (pc' := 18) rfl rfl (by decide) acX8_19 (sh6 G) (sh50 G) (by decide) (by decide) (by decide) (by decide) (by decide) (by decide) (by decide) (Nat.le_of_ble_eq_true rfl) ac_n ac_s ac_i ?_
  refine x_aload_n (i := 10) (pc' := 19) rfl rfl rfl rfl ?_
  refine x_aload_n (i := 11) (pc' := 20) rfl rfl rfl rfl ?_
  refine m_getf (i := 12) (pc' := 23) rfl rfl flX8_15 (sh5 G) rfl rfl ?_
  refine m_putf (kz := 1) (i := 13) (pc' := 26) rfl rfl flX8_15 (sh49 G) (fun _ => rfl) rfl (Nat.le_of_ble_eq_true rfl) rfl rfl ?_
  exact m_return (i := 14) rfl rfl (hQ)
theorem s_X9_copyFrom_45_1 {G : GG} {m : Mem} {Q : Option Value → Mem → Prop}  (hQ : Q none (cps m 45 1)) : CM G 2 mX9_copyFrom [.ref (G.2.2.2 45), .ref (G.2.2.2 1)] m Q := by
  refine CM.of dkX9_copyFrom (Or.inl rfl) [some _, some _] rfl (Nat.le_of_ble_eq_true rfl) ?_
  refine x_aload_n (i := 0) (pc' := 1) rfl rfl rfl rfl ?_
  refine m_getf (i := 1) (pc' := 4) rfl rfl flX9_12 (sh45 G) rfl rfl ?_
  refine x_aload_n (i := 2) (pc' := 5) rfl rfl rfl rfl ?_
  refine m_getf (i := 3) (pc' := 8) rfl rfl flX9_12 (sh1 G) rfl rfl ?_
  refine m_callV (i := 4) (pc' := 11) (av := [_]) (rest := []) rfl rfl (by decide) lX9_29 (sh46 G) rfl rfl rfl rfl rfl (Nat.le_of_ble_eq_true rfl) (Nat.le_refl _) (Nat.le_refl _) (s_X3_copyFrom_45_1 ?_)
  dsimp only [psh]
  refine x_aload_n (i := 5) (pc' := 12) rfl rfl rfl rfl ?_
  refine m_getf (i := 6) (pc' := 15) rfl rfl flX9_21 (sh45 G) rfl rfl ?_
  refine x_aload_n (i := 7) (pc' := 16) rfl rfl rfl rfl ?_
  refine m_getf (i := 8) (pc' := 19) rfl rfl flX9_21 (sh1 G) rfl rfl ?_
  refine m_callV (i := 9) (pc' := 22) (av := [_]) (rest := []) rfl rfl (by decide) lX9_33 (sh49 G) rfl rfl rfl rfl rfl (Nat.le_of_ble_eq_true rfl) (Nat.le_refl _) (Nat.le_refl _) (s_X8_copyFrom_45_1 ?_)
  dsimp only [psh]
  refine x_aload_n (i := 10) (pc' := 23) rfl rfl rfl rfl ?_
  refine m_getf (i := 11) (pc' := 26) rfl rfl flX9_25 (sh1 G) rfl rfl ?_
  refine x_iconst (i := 12) (pc' := 27) rfl rfl ?_
  refine x_aload_n (i := 13) (pc' := 28) rfl rfl rfl rfl ?_
  refine m_getf (i := 14) (pc' := 31) rfl rfl flX9_25 (sh45 G) rfl rfl ?_
  refine x_iconst (i := 15) (pc' := 32) rfl rfl ?_
  refine x_bipush (i := 16) (pc' := 34) rfl rfl (by decide) ?_
  refine m_copy (i := 17) (pc' := 37) rfl rfl (by decide) acX9_36 (sh7 G) (sh51 G) (by decide) (by decide) (by decide) (by decide) (by decide) (by decide) (by decide) (Nat.le_of_ble_eq_true rfl) ac_n ac_s ac_i ?_
  exact m_return (i := 18) rfl rfl (hQ)
end
section
theorem ds_rg {m : Mem} {a b : Int} (ha : RV m a) (hb : RV m b) (hw : WT m) : rg (ds m a b) := by have := ds_le ha hb hw; omega
def ys (m : Mem) (g j k : Int) (x : Int × Int) : Int × Int := if x.1 = -1 ∨ (g = 0 ∧ ds m j k < x.2) ∨ (¬ g = 0 ∧ x.2 < ds m j k) then (j * 16 + k, ds m j k) else x
def yr (m : Mem) (g j : Int) (x : Int × Int) : Int × Int := it (fun k x => ys m g j k x) (j + 1) (m 2 2 - (j + 1)).toNat x
def yp (m : Mem) (g : Int) : Int × Int := it (fun j x => yr m g j x) 0 (m 2 2).toNat (-1, 0)
def YI (x : Int × Int) : Prop := (-1 ≤ x.1 ∧ x.1 ≤ 1000) ∧ rg x.2
theorem ys_I {m : Mem} (hn : CN m) (hv : RVs m) (hw : WT m) {g j k : Int} {x : Int × Int} (hj : 0 ≤ j ∧ j < m 2 2) (hk : 0 ≤ k ∧ k < m 2 2) (h : YI x) : YI (ys m g j k x) := by
  have h1 := hn.1; have h2 := hn.2
  have hd := ds_le (hv j hj.1 hj.2) (hv k hk.1 hk.2) hw
  unfold ys
  split
  · exact ⟨by show -1 ≤ j * 16 + k ∧ j * 16 + k ≤ 1000; omega, by show rg (ds m j k); omega⟩
  · exact h
theorem it_I {α : Type} {f : Int → α → α} {I : α → Prop} : ∀ (n : Nat) (j : Int) (x : α), (∀ i y, j ≤ i → i < j + n → I y → I (f i y)) → I x → I (it f j n x)
  | 0, _, _, _, h => h
  | n + 1, j, x, hf, h => it_I n (j + 1) (f j x) (fun i y h1 h2 => hf i y (by omega) (by omega)) (hf j x (by omega) (by omega) h)
def rn (x : Int) : Int := (x * 1103515245 + 12345) % 2147483648
def ri (w : Int) (x : Int × Mem) : Int × Mem := (rn x.1, stm x.2 3 (16 * 5 + w) (rn x.1 / 65536 % (if w = 4 then 4 else 8)))
noncomputable def rr (x : Int × Mem) : Int × Mem := ((it (fun w x => ri w x) 0 5 x).1, apx (it (fun w x => ri w x) 0 5 x).2)
noncomputable def rds (m : Mem) (a b : Int) : Int × Mem := it (fun _ x => rr x) 0 b.toNat (a, m)
def RI (x : Int × Mem) : Prop := (0 ≤ x.1 ∧ x.1 < 2147483648) ∧ MR x.2 ∧ CN x.2
theorem ri_I {w : Int} {x : Int × Mem} (h : RI x) : RI (ri w x) := by
  obtain ⟨h1, h2, h3⟩ := h
  refine ⟨by show 0 ≤ rn x.1 ∧ rn x.1 < 2147483648; unfold rn; omega, h2.st ?_, h3⟩
  have : 0 ≤ rn x.1 ∧ rn x.1 < 2147483648 := by unfold rn; omega
  split <;> omega
theorem rr_I {x : Int × Mem} (h : RI x) : RI (rr x) := by
  have h2 : RI (it (fun w x => ri w x) 0 5 x) := it_I 5 0 x (fun i y _ _ hy => ri_I hy) h
  exact ⟨h2.1, h2.2.1.ap h2.2.2, h2.2.2.ap⟩
noncomputable def adn (m : Mem) (a b : Int) : Int := if (0 ≤ a ∧ a ≤ 999999) ∧ (1 ≤ b ∧ b ≤ 16) then (rds m a b).2 2 2 - m 2 2 else -2
noncomputable def adz (m : Mem) (a b : Int) : Mem := if (0 ≤ a ∧ a ≤ 999999) ∧ (1 ≤ b ∧ b ≤ 16) then (rds m a b).2 else m
theorem s_X3_extremePair {G : GG} {m : Mem} {Q : Option Value → Mem → Prop} {g : Int} (hM : MR m) (hn : CN m) (hv : RVs m) (hw : WT m) (hg : g = 0 ∨ g = 1) (hQ : Q (some (.int (J ((yp m g).1)))) m) : CM G 3 mX3_extremePair [.ref (G.2.2.2 2), .int (J (g))] m Q := by
  refine CM.of dkX3_extremePair (Or.inl rfl) [some _, some _, none, none, none, none, none] rfl (Nat.le_of_ble_eq_true rfl) ?_
  have hn0 := hn.1; have hn1 := hn.2
  refine x_iconst (i := 0) (pc' := 1) rfl rfl ?_
  refine x_istore_n (L' := [some _, some _, some _, none, none, none, none]) (i := 1) (pc' := 2) rfl rfl rfl rfl (by decide) rfl ?_
  refine x_iconst (i := 2) (pc' := 3) rfl rfl ?_
  refine x_istore_n (L' := [some _, some _, some _, some _, none, none, none]) (i := 3) (pc' := 4) rfl rfl rfl rfl (by decide) rfl ?_
  refine x_iconst (i := 4) (pc' := 5) rfl rfl ?_
  refine x_istore (L' := [some _, some _, some _, some _, some _, none, none]) (i := 5) (pc' := 7) rfl rfl rfl (by decide) rfl ?_
  skip
  refine up_ind1 (P := fun (j : Int) (x : Int × Int) => BW G 3 mX3_extremePair Q 7 [some (.ref (G.2.2.2 2)), some (.int (J (g))), some (.int (J (x.1))), some (.int (J (x.2))), some (.int (J (j))), none, none] [] m) (fun (j : Int) (x : Int × Int) => yr m g j x) (fun (j : Int) (x : Int × Int) => YI x) (m 2 2) (0) ((-1, 0)) (by omega) (⟨by decide, by decide⟩) (fun j x hj0 hj hi => it_I _ _ _ (fun i y h1 h2 h3 => ys_I hn hv hw (by omega) (by omega) h3) hi) (fun j x hj0 hj hi hk => ?_) (fun hi => ?_)
  · skip
    refine x_iload (i := 6) (pc' := 9) rfl rfl rfl ?_
    refine x_aload_n (i := 7) (pc' := 10) rfl rfl rfl rfl ?_
    refine m_getf (i := 8) (pc' := 13) rfl rfl flX3_18 (sh2 G) rfl rfl ?_
    refine x_icmpge (i := 9) (pc' := 16) (tgt := 89) rfl rfl (by decide) ⟨by omega, by omega⟩ ⟨by omega, by omega⟩ (fun c1 => by exfalso; omega) (fun c1 => ?_)
    refine x_iload (i := 10) (pc' := 18) rfl rfl rfl ?_
    refine x_iconst (i := 11) (pc' := 19) rfl rfl ?_
    refine x_iadd (i := 12) (pc' := 20) rfl rfl ?_
    refine x_istore (L' := [some _, some _, some _, some _, some _, some _, none]) (i := 13) (pc' := 22) rfl rfl rfl (by decide) rfl ?_
    refine up_ind1 (P := fun (k : Int) (y : Int × Int) => BW G 3 mX3_extremePair Q 22 [some (.ref (G.2.2.2 2)), some (.int (J (g))), some (.int (J (y.1))), some (.int (J (y.2))), some (.int (J (j))), some (.int (J (k))), none] [] m) (fun (k : Int) (y : Int × Int) => ys m g j k y) (fun (k : Int) (y : Int × Int) => YI y) (m 2 2) (j + 1) (x) (by omega) (hi) (fun k y hj02 hj2 hi2 => ys_I hn hv hw (by omega) (by omega) hi2) (fun k y hj02 hj2 hi2 hk2 => ?_) (fun hi2 => ?_)
    · have hd := ds_le (hv j (by omega) (by omega)) (hv k (by omega) (by omega)) hw
      have hy := hi2.1; have hz := hi2.2
      refine x_iload (i := 14) (pc' := 24) rfl rfl rfl ?_
      refine x_aload_n (i := 15) (pc' := 25) rfl rfl rfl rfl ?_
      refine m_getf (i := 16) (pc' := 28) rfl rfl flX3_18 (sh2 G) rfl rfl ?_
      refine x_icmpge (i := 17) (pc' := 31) (tgt := 83) rfl rfl (by decide) ⟨by omega, by omega⟩ ⟨by omega, by omega⟩ (fun e1 => by exfalso; omega) (fun e1 => ?_)
      refine x_aload_n (i := 18) (pc' := 32) rfl rfl rfl rfl ?_
      refine x_iload (i := 19) (pc' := 34) rfl rfl rfl ?_
      refine x_iload (i := 20) (pc' := 36) rfl rfl rfl ?_
      refine m_callV (i := 21) (pc' := 39) (av := [_, _]) (rest := []) rfl rfl (by decide) lX3_99 (sh2 G) rfl rfl rfl rfl rfl (Nat.le_of_ble_eq_true rfl) (Nat.le_refl _) (Nat.le_refl _) (s_X3_distance (by omega) (by omega) (hv j (by omega) (by omega)) (hv k (by omega) (by omega)) ?_)
      dsimp only [psh]
      refine x_istore (L' := [some _, some _, some _, some _, some _, some _, some _]) (i := 22) (pc' := 41) rfl rfl rfl (by decide) rfl ?_
      refine x_iload_n (i := 23) (pc' := 42) rfl rfl rfl rfl ?_
      refine x_iconst (i := 24) (pc' := 43) rfl rfl ?_
      refine x_icmpeq (i := 25) (pc' := 46) (tgt := 65) rfl rfl (by decide) ⟨by omega, by omega⟩ ⟨by omega, by omega⟩ (fun e2 => ?_) (fun e2 => ?_)
      · skip
        refine x_iload (i := 35) (pc' := 67) rfl rfl rfl ?_
        refine x_istore_n (L' := [some _, some _, some _, some _, some _, some _, some _]) (i := 36) (pc' := 68) rfl rfl rfl rfl (by decide) rfl ?_
        refine x_iload (i := 37) (pc' := 70) rfl rfl rfl ?_
        refine x_bipush (i := 38) (pc' := 72) rfl rfl (by decide) ?_
        refine x_imul (i := 39) (pc' := 73) rfl rfl ?_
        refine x_iload (i := 40) (pc' := 75) rfl rfl rfl ?_
        refine x_iadd (i := 41) (pc' := 76) rfl rfl ?_
        refine x_istore_n (L' := [some _, some _, some _, some _, some _, some _, some _]) (i := 42) (pc' := 77) rfl rfl rfl rfl (by decide) rfl ?_
        refine x_iinc (L' := [some _, some _, some _, some _, some _, some _, some _]) (i := 43) (pc' := 80) rfl rfl rfl rfl (by decide) rfl ?_
        refine x_goto (i := 44) (pc' := 22) rfl (by decide) ?_
        (unfold ys at hk2; first | exact hk2 | (refine AW.le ?_ hk2; simp [lvle]; done) | ((repeat' split at hk2) <;> first | exact hk2 | (refine AW.le ?_ hk2; simp [lvle]; done) | (exfalso; omega)))
      · skip
        refine x_iload_n (i := 26) (pc' := 47) rfl rfl rfl rfl ?_
        refine x_ifeq (i := 27) (pc' := 50) (tgt := 59) rfl rfl (by decide) ⟨by omega, by omega⟩ (fun e3 => ?_) (fun e3 => ?_)
        · skip
          refine x_iload (i := 32) (pc' := 61) rfl rfl rfl ?_
          refine x_iload_n (i := 33) (pc' := 62) rfl rfl rfl rfl ?_
          refine x_icmpge (i := 34) (pc' := 65) (tgt := 77) rfl rfl (by decide) ⟨by omega, by omega⟩ ⟨by omega, by omega⟩ (fun e4 => ?_) (fun e4 => ?_)
          · skip
            refine x_iinc (L' := [some _, some _, some _, some _, some _, some _, some _]) (i := 43) (pc' := 80) rfl rfl rfl rfl (by decide) rfl ?_
            refine x_goto (i := 44) (pc' := 22) rfl (by decide) ?_
            (unfold ys at hk2; first | exact hk2 | (refine AW.le ?_ hk2; simp [lvle]; done) | ((repeat' split at hk2) <;> first | exact hk2 | (refine AW.le ?_ hk2; simp [lvle]; done) | (exfalso; omega)))
          · skip
            refine x_iload (i := 35) (pc' := 67) rfl rfl rfl ?_
            refine x_istore_n (L' := [some _, some _, some _, some _, some _, some _, some _]) (i := 36) (pc' := 68) rfl rfl rfl rfl (by decide) rfl ?_
            refine x_iload (i := 37) (pc' := 70) rfl rfl rfl ?_
            refine x_bipush (i := 38) (pc' := 72) rfl rfl (by decide) ?_
            refine x_imul (i := 39) (pc' := 73) rfl rfl ?_
            refine x_iload (i := 40) (pc' := 75) rfl rfl rfl ?_
            refine x_iadd (i := 41) (pc' := 76) rfl rfl ?_
            refine x_istore_n (L' := [some _, some _, some _, some _, some _, some _, some _]) (i := 42) (pc' := 77) rfl rfl rfl rfl (by decide) rfl ?_
            refine x_iinc (L' := [some _, some _, some _, some _, some _, some _, some _]) (i := 43) (pc' := 80) rfl rfl rfl rfl (by decide) rfl ?_
            refine x_goto (i := 44) (pc' := 22) rfl (by decide) ?_
            (unfold ys at hk2; first | exact hk2 | (refine AW.le ?_ hk2; simp [lvle]; done) | ((repeat' split at hk2) <;> first | exact hk2 | (refine AW.le ?_ hk2; simp [lvle]; done) | (exfalso; omega)))
        · skip
          refine x_iload (i := 28) (pc' := 52) rfl rfl rfl ?_
          refine x_iload_n (i := 29) (pc' := 53) rfl rfl rfl rfl ?_
          refine x_icmple (i := 30) (pc' := 56) (tgt := 77) rfl rfl (by decide) ⟨by omega, by omega⟩ ⟨by omega, by omega⟩ (fun e5 => ?_) (fun e5 => ?_)
          · skip
            refine x_iinc (L' := [some _, some _, some _, some _, some _, some _, some _]) (i := 43) (pc' := 80) rfl rfl rfl rfl (by decide) rfl ?_
            refine x_goto (i := 44) (pc' := 22) rfl (by decide) ?_
            (unfold ys at hk2; first | exact hk2 | (refine AW.le ?_ hk2; simp [lvle]; done) | ((repeat' split at hk2) <;> first | exact hk2 | (refine AW.le ?_ hk2; simp [lvle]; done) | (exfalso; omega)))
          · skip
            refine x_goto (i := 31) (pc' := 65) rfl (by decide) ?_
            refine x_iload (i := 35) (pc' := 67) rfl rfl rfl ?_
            refine x_istore_n (L' := [some _, some _, some _, some _, some _, some _, some _]) (i := 36) (pc' := 68) rfl rfl rfl rfl (by decide) rfl ?_
            refine x_iload (i := 37) (pc' := 70) rfl rfl rfl ?_
            refine x_bipush (i := 38) (pc' := 72) rfl rfl (by decide) ?_
            refine x_imul (i := 39) (pc' := 73) rfl rfl ?_
            refine x_iload (i := 40) (pc' := 75) rfl rfl rfl ?_
            refine x_iadd (i := 41) (pc' := 76) rfl rfl ?_
            refine x_istore_n (L' := [some _, some _, some _, some _, some _, some _, some _]) (i := 42) (pc' := 77) rfl rfl rfl rfl (by decide) rfl ?_
            refine x_iinc (L' := [some _, some _, some _, some _, some _, some _, some _]) (i := 43) (pc' := 80) rfl rfl rfl rfl (by decide) rfl ?_
            refine x_goto (i := 44) (pc' := 22) rfl (by decide) ?_
            (unfold ys at hk2; first | exact hk2 | (refine AW.le ?_ hk2; simp [lvle]; done) | ((repeat' split at hk2) <;> first | exact hk2 | (refine AW.le ?_ hk2; simp [lvle]; done) | (exfalso; omega)))
    · skip
      refine x_iload (i := 14) (pc' := 24) rfl rfl rfl ?_
      refine x_aload_n (i := 15) (pc' := 25) rfl rfl rfl rfl ?_
      refine m_getf (i := 16) (pc' := 28) rfl rfl flX3_18 (sh2 G) rfl rfl ?_
      refine x_icmpge (i := 17) (pc' := 31) (tgt := 83) rfl rfl (by decide) ⟨by omega, by omega⟩ ⟨by omega, by omega⟩ (fun f1 => ?_) (fun f1 => by exfalso; omega)
      refine x_iinc (L' := [some _, some _, some _, some _, some _, some _, none]) (i := 45) (pc' := 86) rfl rfl rfl rfl (by decide) rfl ?_
      refine x_goto (i := 46) (pc' := 7) rfl (by decide) ?_
      (unfold yr at hk; first | exact hk | (refine AW.le ?_ hk; simp [lvle]; done) | ((repeat' split at hk) <;> first | exact hk | (refine AW.le ?_ hk; simp [lvle]; done) | (exfalso; omega)))
  · skip
    refine x_iload (i := 6) (pc' := 9) rfl rfl rfl ?_
    refine x_aload_n (i := 7) (pc' := 10) rfl rfl rfl rfl ?_
    refine m_getf (i := 8) (pc' := 13) rfl rfl flX3_18 (sh2 G) rfl rfl ?_
    refine x_icmpge (i := 9) (pc' := 16) (tgt := 89) rfl rfl (by decide) ⟨by omega, by omega⟩ ⟨by omega, by omega⟩ (fun c1 => ?_) (fun c1 => by exfalso; omega)
    refine x_iload_n (i := 47) (pc' := 90) rfl rfl rfl rfl ?_
    exact m_ireturn (i := 48) rfl rfl (by rw [Int.sub_zero]; exact hQ)
theorem s_X3_addRandom {G : GG} {m : Mem} {Q : Option Value → Mem → Prop} {a b : Int} (hM : MR m) (hn : CN m) (ha : rg a) (hb : rg b) (hQ : Q (some (.int (J (adn m a b)))) (adz m a b)) : CM G 4 mX3_addRandom [.ref (G.2.2.2 2), .int (J (a)), .int (J (b))] m Q := by
  refine CM.of dkX3_addRandom (Or.inl rfl) [some _, some _, some _, none, none, none, none, none, none, none] rfl (Nat.le_of_ble_eq_true rfl) ?_
  have hn0 := hn.1; have hn1 := hn.2
  refine x_iload_n (i := 0) (pc' := 1) rfl rfl rfl rfl ?_
  refine x_iconst (i := 1) (pc' := 2) rfl rfl ?_
  refine x_ldc (i := 2) (pc' := 4) rfl rfl kX3_62 ?_
  refine m_callS (i := 3) (pc' := 7) (av := [_, _, _]) (rest := []) rfl rfl (by decide) lX3_28 rfl rfl (Nat.le_of_ble_eq_true rfl) (Nat.le_refl _) (Nat.le_refl _) (s_X11_isWithin (by omega) (by omega) (by omega) ?_)
  dsimp only [psh]
  refine x_ifeq (i := 4) (pc' := 10) (tgt := 20) rfl rfl (by decide) (by (repeat' split at *) <;> omega) (fun c1 => ?_) (fun c1 => ?_)
  · skip
    refine x_bipush (i := 10) (pc' := 22) rfl rfl (by decide) ?_
    exact m_ireturn (i := 11) rfl rfl (by unfold adn adz at hQ; (repeat' split at hQ) <;> first | exact hQ | (exfalso; omega))
  · skip
    refine x_iload_n (i := 5) (pc' := 11) rfl rfl rfl rfl ?_
    refine x_iconst (i := 6) (pc' := 12) rfl rfl ?_
    refine x_bipush (i := 7) (pc' := 14) rfl rfl (by decide) ?_
    refine m_callS (i := 8) (pc' := 17) (av := [_, _, _]) (rest := []) rfl rfl (by decide) lX3_28 rfl rfl (Nat.le_of_ble_eq_true rfl) (Nat.le_refl _) (Nat.le_refl _) (s_X11_isWithin (by omega) (by omega) (by omega) ?_)
    dsimp only [psh]
    refine x_ifne (i := 9) (pc' := 20) (tgt := 23) rfl rfl (by decide) (by (repeat' split at *) <;> omega) (fun c2 => ?_) (fun c2 => ?_)
    · skip
      refine x_aload_n (i := 12) (pc' := 24) rfl rfl rfl rfl ?_
      refine m_getf (i := 13) (pc' := 27) rfl rfl flX3_18 (sh2 G) rfl rfl ?_
      refine x_istore_n (L' := [some _, some _, some _, some _, none, none, none, none, none, none]) (i := 14) (pc' := 28) rfl rfl rfl rfl (by decide) rfl ?_
      refine x_iload_n (i := 15) (pc' := 29) rfl rfl rfl rfl ?_
      refine x_i2l (i := 16) (pc' := 30) rfl rfl (by (repeat' split at *) <;> omega) ?_
      refine x_lstore (L' := [some _, some _, some _, some _, some _, none, none, none, none, none]) (i := 17) (pc' := 32) rfl rfl rfl (by decide) rfl ?_
      refine x_iconst (i := 18) (pc' := 33) rfl rfl ?_
      refine x_istore (L' := [some _, some _, some _, some _, some _, none, some _, none, none, none]) (i := 19) (pc' := 35) rfl rfl rfl (by decide) rfl ?_
      have hab : (0 ≤ a ∧ a ≤ 999999) ∧ (1 ≤ b ∧ b ≤ 16) := (by (repeat' split at *) <;> omega)
      unfold adn adz at hQ
      rw [if_pos hab, if_pos hab] at hQ
      refine up_ind1 (P := fun (j : Int) (x : Int × Mem) => BW G 4 mX3_addRandom Q 35 [some (.ref (G.2.2.2 2)), some (.int (J (a))), some (.int (J (b))), some (.int (J (m 2 2))), some (.long (JL (x.1))), none, some (.int (J (j))), none, none, none] [] x.2) (fun (j : Int) (x : Int × Mem) => rr x) (fun (j : Int) (x : Int × Mem) => RI x) (b) (0) ((a, m)) (by omega) (⟨by show 0 ≤ a ∧ a < 2147483648; omega, hM, hn⟩) (fun j x hj0 hj hi => rr_I hi) (fun j x hj0 hj hi hk => ?_) (fun hi => ?_)
      · skip
        refine x_iload (i := 20) (pc' := 37) rfl rfl rfl ?_
        refine x_iload_n (i := 21) (pc' := 38) rfl rfl rfl rfl ?_
        refine x_icmpge (i := 22) (pc' := 41) (tgt := 118) rfl rfl (by decide) ⟨by omega, by omega⟩ ⟨by omega, by omega⟩ (fun c1 => by exfalso; omega) (fun c1 => ?_)
        refine x_iconst (i := 23) (pc' := 42) rfl rfl ?_
        refine x_istore (L' := [some _, some _, some _, some _, some _, none, some _, some _, none, none]) (i := 24) (pc' := 44) rfl rfl rfl (by decide) rfl ?_
        refine up_ind1 (P := fun (w : Int) (y : Int × Mem) => BW G 4 mX3_addRandom Q 44 [some (.ref (G.2.2.2 2)), some (.int (J (a))), some (.int (J (b))), some (.int (J (m 2 2))), some (.long (JL (y.1))), none, some (.int (J (j))), some (.int (J (w))), none, none] [] y.2) (fun (w : Int) (y : Int × Mem) => ri w y) (fun (w : Int) (y : Int × Mem) => RI y) (5) (0) (x) (by omega) (hi) (fun w y hj02 hj2 hi2 => ri_I hi2) (fun w y hj02 hj2 hi2 hk2 => ?_) (fun hi2 => ?_)
        · have hx1 := hi2.1.1; have hx2 := hi2.1.2
          have hr : 0 ≤ rn y.1 ∧ rn y.1 < 2147483648 := (by unfold rn; omega)
          refine x_iload (i := 25) (pc' := 46) rfl rfl rfl ?_
          refine x_iconst (i := 26) (pc' := 47) rfl rfl ?_
          refine x_icmpgt (i := 27) (pc' := 50) (tgt := 107) rfl rfl (by decide) ⟨by omega, by omega⟩ ⟨by omega, by omega⟩ (fun e1 => by exfalso; omega) (fun e1 => ?_)
          refine x_lload (i := 28) (pc' := 52) rfl rfl rfl ?_
          refine x_ldc2 (i := 29) (pc' := 55) rfl rfl kX3_63 ?_
          refine x_lmul (i := 30) (pc' := 56) rfl rfl ?_
          refine x_ldc2 (i := 31) (pc' := 59) rfl rfl kX3_65 ?_
          refine x_ladd (i := 32) (pc' := 60) rfl rfl ?_
          refine x_ldc2 (i := 33) (pc' := 63) rfl rfl kX3_67 ?_
          refine x_lrem (i := 34) (pc' := 64) rfl rfl ⟨by omega, by omega⟩ ⟨by omega, by omega⟩ (by omega) (by omega) ?_
          refine x_lstore (L' := [some _, some _, some _, some _, some _, none, some _, some _, none, none]) (i := 35) (pc' := 66) rfl rfl rfl (by decide) rfl ?_
          refine x_iload (i := 36) (pc' := 68) rfl rfl rfl ?_
          refine x_iconst (i := 37) (pc' := 69) rfl rfl ?_
          refine x_icmpne (i := 38) (pc' := 72) (tgt := 78) rfl rfl (by decide) ⟨by omega, by omega⟩ ⟨by omega, by omega⟩ (fun e2 => ?_) (fun e2 => ?_)
          · skip
            refine x_ldc2 (i := 41) (pc' := 81) rfl rfl kX3_71 ?_
            refine x_lstore (L' := [some _, some _, some _, some _, some _, none, some _, some _, some _, none]) (i := 42) (pc' := 83) rfl rfl rfl (by decide) rfl ?_
            refine x_aload_n (i := 43) (pc' := 84) rfl rfl rfl rfl ?_
            refine x_bipush (i := 44) (pc' := 86) rfl rfl (by decide) ?_
            refine x_iload (i := 45) (pc' := 88) rfl rfl rfl ?_
            have h8 : (y.1 * 1103515245 + 12345) % 2147483648 = rn y.1 := rfl
            refine x_lload (i := 46) (pc' := 90) rfl rfl rfl ?_
            refine x_ldc2 (i := 47) (pc' := 93) rfl rfl kX3_73 ?_
            refine x_ldiv (i := 48) (pc' := 94) rfl rfl ⟨by omega, by omega⟩ ⟨by omega, by omega⟩ (by omega) (by omega) ?_
            refine x_lload (i := 49) (pc' := 96) rfl rfl rfl ?_
            refine x_lrem (i := 50) (pc' := 97) rfl rfl ⟨by omega, by omega⟩ ⟨by omega, by omega⟩ (by omega) (by omega) ?_
            refine x_l2i (i := 51) (pc' := 98) rfl rfl ?_
            refine m_callV (i := 52) (pc' := 101) (av := [_, _, _]) (rest := []) rfl rfl (by decide) lX3_32 (sh2 G) rfl rfl rfl rfl rfl (Nat.le_of_ble_eq_true rfl) (Nat.le_refl _) (Nat.le_refl _) (s_X3_setTrait (by omega) (by omega) ?_)
            dsimp only [psh]
            refine x_iinc (L' := [some _, some _, some _, some _, some _, none, some _, some _, some _, none]) (i := 53) (pc' := 104) rfl rfl rfl rfl (by decide) rfl ?_
            refine x_goto (i := 54) (pc' := 44) rfl (by decide) ?_
            (first | (have e9 : (if w = 4 then 4 else 8 : Int) = 4 := if_pos (by omega); unfold ri at hk2; rw [e9] at hk2; refine AW.le ?_ hk2; simp [lvle, rn]; done) | (have e9 : (if w = 4 then 4 else 8 : Int) = 8 := if_neg (by omega); unfold ri at hk2; rw [e9] at hk2; refine AW.le ?_ hk2; simp [lvle, rn]; done))
          · skip
            refine x_ldc2 (i := 39) (pc' := 75) rfl rfl kX3_69 ?_
            refine x_goto (i := 40) (pc' := 81) rfl (by decide) ?_
            refine x_lstore (L' := [some _, some _, some _, some _, some _, none, some _, some _, some _, none]) (i := 42) (pc' := 83) rfl rfl rfl (by decide) rfl ?_
            refine x_aload_n (i := 43) (pc' := 84) rfl rfl rfl rfl ?_
            refine x_bipush (i := 44) (pc' := 86) rfl rfl (by decide) ?_
            refine x_iload (i := 45) (pc' := 88) rfl rfl rfl ?_
            have h8 : (y.1 * 1103515245 + 12345) % 2147483648 = rn y.1 := rfl
            refine x_lload (i := 46) (pc' := 90) rfl rfl rfl ?_
            refine x_ldc2 (i := 47) (pc' := 93) rfl rfl kX3_73 ?_
            refine x_ldiv (i := 48) (pc' := 94) rfl rfl ⟨by omega, by omega⟩ ⟨by omega, by omega⟩ (by omega) (by omega) ?_
            refine x_lload (i := 49) (pc' := 96) rfl rfl rfl ?_
            refine x_lrem (i := 50) (pc' := 97) rfl rfl ⟨by omega, by omega⟩ ⟨by omega, by omega⟩ (by omega) (by omega) ?_
            refine x_l2i (i := 51) (pc' := 98) rfl rfl ?_
            refine m_callV (i := 52) (pc' := 101) (av := [_, _, _]) (rest := []) rfl rfl (by decide) lX3_32 (sh2 G) rfl rfl rfl rfl rfl (Nat.le_of_ble_eq_true rfl) (Nat.le_refl _) (Nat.le_refl _) (s_X3_setTrait (by omega) (by omega) ?_)
            dsimp only [psh]
            refine x_iinc (L' := [some _, some _, some _, some _, some _, none, some _, some _, some _, none]) (i := 53) (pc' := 104) rfl rfl rfl rfl (by decide) rfl ?_
            refine x_goto (i := 54) (pc' := 44) rfl (by decide) ?_
            (first | (have e9 : (if w = 4 then 4 else 8 : Int) = 4 := if_pos (by omega); unfold ri at hk2; rw [e9] at hk2; refine AW.le ?_ hk2; simp [lvle, rn]; done) | (have e9 : (if w = 4 then 4 else 8 : Int) = 8 := if_neg (by omega); unfold ri at hk2; rw [e9] at hk2; refine AW.le ?_ hk2; simp [lvle, rn]; done))
        · have hii := hi2
          refine x_iload (i := 25) (pc' := 46) rfl rfl rfl ?_
          refine x_iconst (i := 26) (pc' := 47) rfl rfl ?_
          refine x_icmpgt (i := 27) (pc' := 50) (tgt := 107) rfl rfl (by decide) ⟨by omega, by omega⟩ ⟨by omega, by omega⟩ (fun f1 => ?_) (fun f1 => by exfalso; omega)
          refine x_aload_n (i := 55) (pc' := 108) rfl rfl rfl rfl ?_
          refine m_callV (i := 56) (pc' := 111) (av := []) (rest := []) rfl rfl (by decide) lX3_44 (sh2 G) rfl rfl rfl rfl rfl (Nat.le_of_ble_eq_true rfl) (Nat.le_refl _) (Nat.le_refl _) (s_X3_appendAsked hii.2.1 hii.2.2 ?_)
          dsimp only [psh]
          refine x_pop (i := 57) (pc' := 112) rfl rfl rfl ?_
          refine x_iinc (L' := [some _, some _, some _, some _, some _, none, some _, some _, none, none]) (i := 58) (pc' := 115) rfl rfl rfl rfl (by decide) rfl ?_
          refine x_goto (i := 59) (pc' := 35) rfl (by decide) ?_
          (unfold rr at hk; first | exact hk | (refine AW.le ?_ hk; simp [lvle]; done) | ((repeat' split at hk) <;> first | exact hk | (refine AW.le ?_ hk; simp [lvle]; done) | (exfalso; omega)))
      · skip
        refine x_iload (i := 20) (pc' := 37) rfl rfl rfl ?_
        refine x_iload_n (i := 21) (pc' := 38) rfl rfl rfl rfl ?_
        refine x_icmpge (i := 22) (pc' := 41) (tgt := 118) rfl rfl (by decide) ⟨by omega, by omega⟩ ⟨by omega, by omega⟩ (fun c1 => ?_) (fun c1 => by exfalso; omega)
        refine x_aload_n (i := 60) (pc' := 119) rfl rfl rfl rfl ?_
        refine m_getf (i := 61) (pc' := 122) rfl rfl flX3_18 (sh2 G) rfl rfl ?_
        refine x_iload_n (i := 62) (pc' := 123) rfl rfl rfl rfl ?_
        refine x_isub (i := 63) (pc' := 124) rfl rfl ?_
        exact m_ireturn (i := 64) rfl rfl (by rw [Int.sub_zero]; exact hQ)
    · skip
      refine x_bipush (i := 10) (pc' := 22) rfl rfl (by decide) ?_
      exact m_ireturn (i := 11) rfl rfl (by unfold adn adz at hQ; (repeat' split at hQ) <;> first | exact hQ | (exfalso; omega))
end
section
def ks (m : Mem) : Mem := stm (stm m 8 1 ((m 8 1 + 1) % 6)) 8 2 (mn (m 8 2 + 1) 5)
def PX (m : Mem) : Prop := (0 ≤ m 8 1 ∧ m 8 1 ≤ 5) ∧ (0 ≤ m 8 2 ∧ m 8 2 ≤ 5)
def bkm (m : Mem) : Mem := cps (stm (stm m 8 1 ((m 8 1 + 6 - 1) % 6)) 8 2 (m 8 2 - 1)) 1 (10 + 7 * ((m 8 1 + 6 - 1) % 6).toNat)
def tha (m : Mem) (s : Int) : Int := if 0 ≤ s ∧ s ≤ 5 then m 58 s else -1
theorem tha_rg {m : Mem} (hM : MR m) (s : Int) : rg (tha m s) := by
  unfold tha
  split
  · exact hM _ _
  · decide
def sw (m : Mem) (j : Int) : Int := m 3 (m 6 (j * 3 + 0) * 5 + 4)
def iw0 (m : Mem) (i : Int) : Mem := stm (stm (stm m 60 i 0) 61 i (-1)) 62 i (-1)
def iw (m : Mem) (i s : Int) : Mem :=
  if s = 1 then (if 0 ≤ m 6 (i * 3 + 2) ∧ m 6 (i * 3 + 2) ≤ 5 then stm (iw0 m i) 58 (m 6 (i * 3 + 2)) (m 6 (i * 3 + 0)) else iw0 m i)
  else if s = 2 then stm (stm (iw0 m i) 61 i (tha m (m 6 (i * 3 + 2)))) 60 i (if tha m (m 6 (i * 3 + 2)) = -1 then 1 else 0)
  else if s = 3 then stm (stm (stm (iw0 m i) 61 i (tha m (m 6 (i * 3 + 1)))) 62 i (tha m (m 6 (i * 3 + 2)))) 60 i (if (¬ m 6 (i * 3 + 1) = -1 ∧ tha m (m 6 (i * 3 + 1)) = -1) ∨ (¬ m 6 (i * 3 + 2) = -1 ∧ tha m (m 6 (i * 3 + 2)) = -1) then 1 else 0)
  else iw0 m i
theorem s_X5_stage {G : GG} {m : Mem} {Q : Option Value → Mem → Prop} (hx : 0 ≤ m 8 1 ∧ m 8 1 ≤ 5) (hQ : Q none (cps m (10 + 7 * (m 8 1).toNat) 1)) : CM G 3 mX5_stage [.ref (G.2.2.2 8), .ref (G.2.2.2 1)] m Q := by
  refine CM.of dkX5_stage (Or.inl rfl) [some _, some _] rfl (Nat.le_of_ble_eq_true rfl) ?_
  rcases (by omega : m 8 1 = 0 ∨ m 8 1 = 1 ∨ m 8 1 = 2 ∨ m 8 1 = 3 ∨ m 8 1 = 4 ∨ m 8 1 = 5) with h | h | h | h | h | h
  · have e : 10 + 7 * (m 8 1).toNat = 10 := (by rw [h]; rfl)
    rw [e] at hQ
    refine x_aload_n (i := 0) (pc' := 1) rfl rfl rfl rfl ?_
    refine m_getf (i := 1) (pc' := 4) rfl rfl flX5_13 (sh8 G) rfl rfl ?_
    refine x_aload_n (i := 2) (pc' := 5) rfl rfl rfl rfl ?_
    refine m_getf (i := 3) (pc' := 8) rfl rfl flX5_17 (sh8 G) rfl rfl ?_
    refine m_aald (v := 10) (i := 4) (pc' := 9) rfl rfl (by omega) e.symm ?_
    refine x_aload_n (i := 5) (pc' := 10) rfl rfl rfl rfl ?_
    refine m_callV (i := 6) (pc' := 13) (av := [_]) (rest := []) rfl rfl (by decide) lX5_25 (sh10 G) rfl rfl rfl rfl rfl (Nat.le_of_ble_eq_true rfl) (Nat.le_refl _) (Nat.le_refl _) (s_X9_copyFrom_10_1 ?_)
    dsimp only [psh]
    exact m_return (i := 7) rfl rfl (hQ)
  · have e : 10 + 7 * (m 8 1).toNat = 17 := (by rw [h]; rfl)
    rw [e] at hQ
    refine x_aload_n (i := 0) (pc' := 1) rfl rfl rfl rfl ?_
    refine m_getf (i := 1) (pc' := 4) rfl rfl flX5_13 (sh8 G) rfl rfl ?_
    refine x_aload_n (i := 2) (pc' := 5) rfl rfl rfl rfl ?_
    refine m_getf (i := 3) (pc' := 8) rfl rfl flX5_17 (sh8 G) rfl rfl ?_
    refine m_aald (v := 17) (i := 4) (pc' := 9) rfl rfl (by omega) e.symm ?_
    refine x_aload_n (i := 5) (pc' := 10) rfl rfl rfl rfl ?_
    refine m_callV (i := 6) (pc' := 13) (av := [_]) (rest := []) rfl rfl (by decide) lX5_25 (sh17 G) rfl rfl rfl rfl rfl (Nat.le_of_ble_eq_true rfl) (Nat.le_refl _) (Nat.le_refl _) (s_X9_copyFrom_17_1 ?_)
    dsimp only [psh]
    exact m_return (i := 7) rfl rfl (hQ)
  · have e : 10 + 7 * (m 8 1).toNat = 24 := (by rw [h]; rfl)
    rw [e] at hQ
    refine x_aload_n (i := 0) (pc' := 1) rfl rfl rfl rfl ?_
    refine m_getf (i := 1) (pc' := 4) rfl rfl flX5_13 (sh8 G) rfl rfl ?_
    refine x_aload_n (i := 2) (pc' := 5) rfl rfl rfl rfl ?_
    refine m_getf (i := 3) (pc' := 8) rfl rfl flX5_17 (sh8 G) rfl rfl ?_
    refine m_aald (v := 24) (i := 4) (pc' := 9) rfl rfl (by omega) e.symm ?_
    refine x_aload_n (i := 5) (pc' := 10) rfl rfl rfl rfl ?_
    refine m_callV (i := 6) (pc' := 13) (av := [_]) (rest := []) rfl rfl (by decide) lX5_25 (sh24 G) rfl rfl rfl rfl rfl (Nat.le_of_ble_eq_true rfl) (Nat.le_refl _) (Nat.le_refl _) (s_X9_copyFrom_24_1 ?_)
    dsimp only [psh]
    exact m_return (i := 7) rfl rfl (hQ)
  · have e : 10 + 7 * (m 8 1).toNat = 31 := (by rw [h]; rfl)
    rw [e] at hQ
    refine x_aload_n (i := 0) (pc' := 1) rfl rfl rfl rfl ?_
    refine m_getf (i := 1) (pc' := 4) rfl rfl flX5_13 (sh8 G) rfl rfl ?_
    refine x_aload_n (i := 2) (pc' := 5) rfl rfl rfl rfl ?_
    refine m_getf (i := 3) (pc' := 8) rfl rfl flX5_17 (sh8 G) rfl rfl ?_
    refine m_aald (v := 31) (i := 4) (pc' := 9) rfl rfl (by omega) e.symm ?_
    refine x_aload_n (i := 5) (pc' := 10) rfl rfl rfl rfl ?_
    refine m_callV (i := 6) (pc' := 13) (av := [_]) (rest := []) rfl rfl (by decide) lX5_25 (sh31 G) rfl rfl rfl rfl rfl (Nat.le_of_ble_eq_true rfl) (Nat.le_refl _) (Nat.le_refl _) (s_X9_copyFrom_31_1 ?_)
    dsimp only [psh]
    exact m_return (i := 7) rfl rfl (hQ)
  · have e : 10 + 7 * (m 8 1).toNat = 38 := (by rw [h]; rfl)
    rw [e] at hQ
    refine x_aload_n (i := 0) (pc' := 1) rfl rfl rfl rfl ?_
    refine m_getf (i := 1) (pc' := 4) rfl rfl flX5_13 (sh8 G) rfl rfl ?_
    refine x_aload_n (i := 2) (pc' := 5) rfl rfl rfl rfl ?_
    refine m_getf (i := 3) (pc' := 8) rfl rfl flX5_17 (sh8 G) rfl rfl ?_
    refine m_aald (v := 38) (i := 4) (pc' := 9) rfl rfl (by omega) e.symm ?_
    refine x_aload_n (i := 5) (pc' := 10) rfl rfl rfl rfl ?_
    refine m_callV (i := 6) (pc' := 13) (av := [_]) (rest := []) rfl rfl (by decide) lX5_25 (sh38 G) rfl rfl rfl rfl rfl (Nat.le_of_ble_eq_true rfl) (Nat.le_refl _) (Nat.le_refl _) (s_X9_copyFrom_38_1 ?_)
    dsimp only [psh]
    exact m_return (i := 7) rfl rfl (hQ)
  · have e : 10 + 7 * (m 8 1).toNat = 45 := (by rw [h]; rfl)
    rw [e] at hQ
    refine x_aload_n (i := 0) (pc' := 1) rfl rfl rfl rfl ?_
    refine m_getf (i := 1) (pc' := 4) rfl rfl flX5_13 (sh8 G) rfl rfl ?_
    refine x_aload_n (i := 2) (pc' := 5) rfl rfl rfl rfl ?_
    refine m_getf (i := 3) (pc' := 8) rfl rfl flX5_17 (sh8 G) rfl rfl ?_
    refine m_aald (v := 45) (i := 4) (pc' := 9) rfl rfl (by omega) e.symm ?_
    refine x_aload_n (i := 5) (pc' := 10) rfl rfl rfl rfl ?_
    refine m_callV (i := 6) (pc' := 13) (av := [_]) (rest := []) rfl rfl (by decide) lX5_25 (sh45 G) rfl rfl rfl rfl rfl (Nat.le_of_ble_eq_true rfl) (Nat.le_refl _) (Nat.le_refl _) (s_X9_copyFrom_45_1 ?_)
    dsimp only [psh]
    exact m_return (i := 7) rfl rfl (hQ)

theorem s_X5_unstage {G : GG} {m : Mem} {Q : Option Value → Mem → Prop} (hx : 0 ≤ m 8 1 ∧ m 8 1 ≤ 5) (hQ : Q none (cps m 1 (10 + 7 * (m 8 1).toNat))) : CM G 3 mX5_unstage [.ref (G.2.2.2 8), .ref (G.2.2.2 1)] m Q := by
  refine CM.of dkX5_unstage (Or.inl rfl) [some _, some _] rfl (Nat.le_of_ble_eq_true rfl) ?_
  rcases (by omega : m 8 1 = 0 ∨ m 8 1 = 1 ∨ m 8 1 = 2 ∨ m 8 1 = 3 ∨ m 8 1 = 4 ∨ m 8 1 = 5) with h | h | h | h | h | h
  · have e : 10 + 7 * (m 8 1).toNat = 10 := (by rw [h]; rfl)
    rw [e] at hQ
    refine x_aload_n (i := 0) (pc' := 1) rfl rfl rfl rfl ?_
    refine x_aload_n (i := 1) (pc' := 2) rfl rfl rfl rfl ?_
    refine m_getf (i := 2) (pc' := 5) rfl rfl flX5_13 (sh8 G) rfl rfl ?_
    refine x_aload_n (i := 3) (pc' := 6) rfl rfl rfl rfl ?_
    refine m_getf (i := 4) (pc' := 9) rfl rfl flX5_17 (sh8 G) rfl rfl ?_
    refine m_aald (v := 10) (i := 5) (pc' := 10) rfl rfl (by omega) e.symm ?_
    refine m_callV (i := 6) (pc' := 13) (av := [_]) (rest := []) rfl rfl (by decide) lX5_25 (sh1 G) rfl rfl rfl rfl rfl (Nat.le_of_ble_eq_true rfl) (Nat.le_refl _) (Nat.le_refl _) (s_X9_copyFrom_1_10 ?_)
    dsimp only [psh]
    exact m_return (i := 7) rfl rfl (hQ)
  · have e : 10 + 7 * (m 8 1).toNat = 17 := (by rw [h]; rfl)
    rw [e] at hQ
    refine x_aload_n (i := 0) (pc' := 1) rfl rfl rfl rfl ?_
    refine x_aload_n (i := 1) (pc' := 2) rfl rfl rfl rfl ?_
    refine m_getf (i := 2) (pc' := 5) rfl rfl flX5_13 (sh8 G) rfl rfl ?_
    refine x_aload_n (i := 3) (pc' := 6) rfl rfl rfl rfl ?_
    refine m_getf (i := 4) (pc' := 9) rfl rfl flX5_17 (sh8 G) rfl rfl ?_
    refine m_aald (v := 17) (i := 5) (pc' := 10) rfl rfl (by omega) e.symm ?_
    refine m_callV (i := 6) (pc' := 13) (av := [_]) (rest := []) rfl rfl (by decide) lX5_25 (sh1 G) rfl rfl rfl rfl rfl (Nat.le_of_ble_eq_true rfl) (Nat.le_refl _) (Nat.le_refl _) (s_X9_copyFrom_1_17 ?_)
    dsimp only [psh]
    exact m_return (i := 7) rfl rfl (hQ)
  · have e : 10 + 7 * (m 8 1).toNat = 24 := (by rw [h]; rfl)
    rw [e] at hQ
    refine x_aload_n (i := 0) (pc' := 1) rfl rfl rfl rfl ?_
    refine x_aload_n (i := 1) (pc' := 2) rfl rfl rfl rfl ?_
    refine m_getf (i := 2) (pc' := 5) rfl rfl flX5_13 (sh8 G) rfl rfl ?_
    refine x_aload_n (i := 3) (pc' := 6) rfl rfl rfl rfl ?_
    refine m_getf (i := 4) (pc' := 9) rfl rfl flX5_17 (sh8 G) rfl rfl ?_
    refine m_aald (v := 24) (i := 5) (pc' := 10) rfl rfl (by omega) e.symm ?_
    refine m_callV (i := 6) (pc' := 13) (av := [_]) (rest := []) rfl rfl (by decide) lX5_25 (sh1 G) rfl rfl rfl rfl rfl (Nat.le_of_ble_eq_true rfl) (Nat.le_refl _) (Nat.le_refl _) (s_X9_copyFrom_1_24 ?_)
    dsimp only [psh]
    exact m_return (i := 7) rfl rfl (hQ)
  · have e : 10 + 7 * (m 8 1).toNat = 31 := (by rw [h]; rfl)
    rw [e] at hQ
    refine x_aload_n (i := 0) (pc' := 1) rfl rfl rfl rfl ?_
    refine x_aload_n (i := 1) (pc' := 2) rfl rfl rfl rfl ?_
    refine m_getf (i := 2) (pc' := 5) rfl rfl flX5_13 (sh8 G) rfl rfl ?_
    refine x_aload_n (i := 3) (pc' := 6) rfl rfl rfl rfl ?_
    refine m_getf (i := 4) (pc' := 9) rfl rfl flX5_17 (sh8 G) rfl rfl ?_
    refine m_aald (v := 31) (i := 5) (pc' := 10) rfl rfl (by omega) e.symm ?_
    refine m_callV (i := 6) (pc' := 13) (av := [_]) (rest := []) rfl rfl (by decide) lX5_25 (sh1 G) rfl rfl rfl rfl rfl (Nat.le_of_ble_eq_true rfl) (Nat.le_refl _) (Nat.le_refl _) (s_X9_copyFrom_1_31 ?_)
    dsimp only [psh]
    exact m_return (i := 7) rfl rfl (hQ)
  · have e : 10 + 7 * (m 8 1).toNat = 38 := (by rw [h]; rfl)
    rw [e] at hQ
    refine x_aload_n (i := 0) (pc' := 1) rfl rfl rfl rfl ?_
    refine x_aload_n (i := 1) (pc' := 2) rfl rfl rfl rfl ?_
    refine m_getf (i := 2) (pc' := 5) rfl rfl flX5_13 (sh8 G) rfl rfl ?_
    refine x_aload_n (i := 3) (pc' := 6) rfl rfl rfl rfl ?_
    refine m_getf (i := 4) (pc' := 9) rfl rfl flX5_17 (sh8 G) rfl rfl ?_
    refine m_aald (v := 38) (i := 5) (pc' := 10) rfl rfl (by omega) e.symm ?_
    refine m_callV (i := 6) (pc' := 13) (av := [_]) (rest := []) rfl rfl (by decide) lX5_25 (sh1 G) rfl rfl rfl rfl rfl (Nat.le_of_ble_eq_true rfl) (Nat.le_refl _) (Nat.le_refl _) (s_X9_copyFrom_1_38 ?_)
    dsimp only [psh]
    exact m_return (i := 7) rfl rfl (hQ)
  · have e : 10 + 7 * (m 8 1).toNat = 45 := (by rw [h]; rfl)
    rw [e] at hQ
    refine x_aload_n (i := 0) (pc' := 1) rfl rfl rfl rfl ?_
    refine x_aload_n (i := 1) (pc' := 2) rfl rfl rfl rfl ?_
    refine m_getf (i := 2) (pc' := 5) rfl rfl flX5_13 (sh8 G) rfl rfl ?_
    refine x_aload_n (i := 3) (pc' := 6) rfl rfl rfl rfl ?_
    refine m_getf (i := 4) (pc' := 9) rfl rfl flX5_17 (sh8 G) rfl rfl ?_
    refine m_aald (v := 45) (i := 5) (pc' := 10) rfl rfl (by omega) e.symm ?_
    refine m_callV (i := 6) (pc' := 13) (av := [_]) (rest := []) rfl rfl (by decide) lX5_25 (sh1 G) rfl rfl rfl rfl rfl (Nat.le_of_ble_eq_true rfl) (Nat.le_refl _) (Nat.le_refl _) (s_X9_copyFrom_1_45 ?_)
    dsimp only [psh]
    exact m_return (i := 7) rfl rfl (hQ)

theorem s_X5_keepStaged {G : GG} {m : Mem} {Q : Option Value → Mem → Prop} (hx : PX m) (hQ : Q none (ks m)) : CM G 1 mX5_keepStaged [.ref (G.2.2.2 8)] m Q := by
  refine CM.of dkX5_keepStaged (Or.inl rfl) [some _] rfl (Nat.le_of_ble_eq_true rfl) ?_
  have h1 := hx.1; have h2 := hx.2
  have e1 : stm m 8 1 ((m 8 1 + 1) % 6) 8 2 = m 8 2 := stm_ix _ _ _ (by decide)
  refine x_aload_n (i := 0) (pc' := 1) rfl rfl rfl rfl ?_
  refine x_aload_n (i := 1) (pc' := 2) rfl rfl rfl rfl ?_
  refine m_getf (i := 2) (pc' := 5) rfl rfl flX5_17 (sh8 G) rfl rfl ?_
  refine x_iconst (i := 3) (pc' := 6) rfl rfl ?_
  refine x_iadd (i := 4) (pc' := 7) rfl rfl ?_
  refine x_bipush (i := 5) (pc' := 9) rfl rfl (by decide) ?_
  refine x_irem (i := 6) (pc' := 10) rfl rfl ⟨by omega, by omega⟩ ⟨by omega, by omega⟩ (by omega) (by omega) ?_
  refine m_putf (kz := 1) (i := 7) (pc' := 13) rfl rfl flX5_17 (sh8 G) (fun _ => rfl) rfl (Nat.le_of_ble_eq_true rfl) rfl rfl ?_
  refine x_aload_n (i := 8) (pc' := 14) rfl rfl rfl rfl ?_
  refine x_aload_n (i := 9) (pc' := 15) rfl rfl rfl rfl ?_
  refine m_getf (i := 10) (pc' := 18) rfl rfl flX5_21 (sh8 G) rfl rfl ?_
  rw [e1]
  refine x_iconst (i := 11) (pc' := 19) rfl rfl ?_
  refine x_iadd (i := 12) (pc' := 20) rfl rfl ?_
  refine x_iconst (i := 13) (pc' := 21) rfl rfl ?_
  refine m_callS (i := 14) (pc' := 24) (av := [_, _]) (rest := [_]) rfl rfl (by decide) lX5_29 rfl rfl (Nat.le_of_ble_eq_true rfl) (Nat.le_refl _) (Nat.le_refl _) (s_J9_min_7cf53 (by omega) (by omega) ?_)
  dsimp only [psh]
  refine m_putf (kz := 2) (i := 15) (pc' := 27) rfl rfl flX5_21 (sh8 G) (fun _ => rfl) rfl (Nat.le_of_ble_eq_true rfl) rfl rfl ?_
  exact m_return (i := 16) rfl rfl (hQ)
theorem s_X5_restore {G : GG} {m : Mem} {Q : Option Value → Mem → Prop} (hx : PX m) (hQ : Q (some (.int (J (if m 8 2 = 0 then -3 else m 8 2 - 1)))) (if m 8 2 = 0 then m else bkm m)) : CM G 3 mX5_restore [.ref (G.2.2.2 8), .ref (G.2.2.2 1)] m Q := by
  refine CM.of dkX5_restore (Or.inl rfl) [some _, some _] rfl (Nat.le_of_ble_eq_true rfl) ?_
  have h1 := hx.1; have h2 := hx.2
  refine x_aload_n (i := 0) (pc' := 1) rfl rfl rfl rfl ?_
  refine m_getf (i := 1) (pc' := 4) rfl rfl flX5_21 (sh8 G) rfl rfl ?_
  refine x_ifne (i := 2) (pc' := 7) (tgt := 10) rfl rfl (by decide) ⟨by omega, by omega⟩ (fun c1 => ?_) (fun c1 => ?_)
  · skip
    rw [if_neg (by assumption), if_neg (by assumption)] at hQ
    unfold bkm at hQ
    have e1 : stm m 8 1 ((m 8 1 + 6 - 1) % 6) 8 2 = m 8 2 := stm_ix _ _ _ (by decide)
    have e2 : stm (stm m 8 1 ((m 8 1 + 6 - 1) % 6)) 8 2 (m 8 2 - 1) 8 1 = (m 8 1 + 6 - 1) % 6 := (by rw [stm_ix _ _ _ (by decide), stm_eq])
    have e3 : ∀ (mm : Mem) (z : Int) (b : Nat), (b = 10 ∨ b = 17 ∨ b = 24 ∨ b = 31 ∨ b = 38 ∨ b = 45) → cps (stm mm 8 2 z) 1 b 8 2 = z := (by
      intro mm z b hb
      rcases hb with h | h | h | h | h | h <;> (subst h; exact stm_eq mm 8 2 z))
    generalize hnx : (m 8 1 + 6 - 1) % 6 = nx at hQ e1 e2
    rcases (by omega : nx = 0 ∨ nx = 1 ∨ nx = 2 ∨ nx = 3 ∨ nx = 4 ∨ nx = 5) with h | h | h | h | h | h
    · have e : 10 + 7 * nx.toNat = 10 := (by rw [h]; rfl)
      rw [e] at hQ
      have e4 := e3 (stm m 8 1 nx) (m 8 2 - 1) 10 (by omega)
      refine x_aload_n (i := 5) (pc' := 11) rfl rfl rfl rfl ?_
      refine x_aload_n (i := 6) (pc' := 12) rfl rfl rfl rfl ?_
      refine m_getf (i := 7) (pc' := 15) rfl rfl flX5_17 (sh8 G) rfl rfl ?_
      refine x_bipush (i := 8) (pc' := 17) rfl rfl (by decide) ?_
      refine x_iadd (i := 9) (pc' := 18) rfl rfl ?_
      refine x_iconst (i := 10) (pc' := 19) rfl rfl ?_
      refine x_isub (i := 11) (pc' := 20) rfl rfl ?_
      refine x_bipush (i := 12) (pc' := 22) rfl rfl (by decide) ?_
      refine x_irem (i := 13) (pc' := 23) rfl rfl ⟨by omega, by omega⟩ ⟨by omega, by omega⟩ (by omega) (by omega) ?_
      rw [hnx]
      refine m_putf (kz := 1) (i := 14) (pc' := 26) rfl rfl flX5_17 (sh8 G) (fun _ => rfl) rfl (Nat.le_of_ble_eq_true rfl) rfl rfl ?_
      refine x_aload_n (i := 15) (pc' := 27) rfl rfl rfl rfl ?_
      refine x_dup (i := 16) (pc' := 28) rfl rfl rfl ?_
      refine m_getf (i := 17) (pc' := 31) rfl rfl flX5_21 (sh8 G) rfl rfl ?_
      rw [e1]
      refine x_iconst (i := 18) (pc' := 32) rfl rfl ?_
      refine x_isub (i := 19) (pc' := 33) rfl rfl ?_
      refine m_putf (kz := 2) (i := 20) (pc' := 36) rfl rfl flX5_21 (sh8 G) (fun _ => rfl) rfl (Nat.le_of_ble_eq_true rfl) rfl rfl ?_
      refine x_aload_n (i := 21) (pc' := 37) rfl rfl rfl rfl ?_
      refine x_aload_n (i := 22) (pc' := 38) rfl rfl rfl rfl ?_
      refine m_getf (i := 23) (pc' := 41) rfl rfl flX5_13 (sh8 G) rfl rfl ?_
      refine x_aload_n (i := 24) (pc' := 42) rfl rfl rfl rfl ?_
      refine m_getf (i := 25) (pc' := 45) rfl rfl flX5_17 (sh8 G) rfl rfl ?_
      rw [e2]
      refine m_aald (v := 10) (i := 26) (pc' := 46) rfl rfl (by omega) e.symm ?_
      refine m_callV (i := 27) (pc' := 49) (av := [_]) (rest := []) rfl rfl (by decide) lX5_25 (sh1 G) rfl rfl rfl rfl rfl (Nat.le_of_ble_eq_true rfl) (Nat.le_refl _) (Nat.le_refl _) (s_X9_copyFrom_1_10 ?_)
      dsimp only [psh]
      refine x_aload_n (i := 28) (pc' := 50) rfl rfl rfl rfl ?_
      refine m_getf (i := 29) (pc' := 53) rfl rfl flX5_21 (sh8 G) rfl rfl ?_
      rw [e4]
      exact m_ireturn (i := 30) rfl rfl (hQ)
    · have e : 10 + 7 * nx.toNat = 17 := (by rw [h]; rfl)
      rw [e] at hQ
      have e4 := e3 (stm m 8 1 nx) (m 8 2 - 1) 17 (by omega)
      refine x_aload_n (i := 5) (pc' := 11) rfl rfl rfl rfl ?_
      refine x_aload_n (i := 6) (pc' := 12) rfl rfl rfl rfl ?_
      refine m_getf (i := 7) (pc' := 15) rfl rfl flX5_17 (sh8 G) rfl rfl ?_
      refine x_bipush (i := 8) (pc' := 17) rfl rfl (by decide) ?_
      refine x_iadd (i := 9) (pc' := 18) rfl rfl ?_
      refine x_iconst (i := 10) (pc' := 19) rfl rfl ?_
      refine x_isub (i := 11) (pc' := 20) rfl rfl ?_
      refine x_bipush (i := 12) (pc' := 22) rfl rfl (by decide) ?_
      refine x_irem (i := 13) (pc' := 23) rfl rfl ⟨by omega, by omega⟩ ⟨by omega, by omega⟩ (by omega) (by omega) ?_
      rw [hnx]
      refine m_putf (kz := 1) (i := 14) (pc' := 26) rfl rfl flX5_17 (sh8 G) (fun _ => rfl) rfl (Nat.le_of_ble_eq_true rfl) rfl rfl ?_
      refine x_aload_n (i := 15) (pc' := 27) rfl rfl rfl rfl ?_
      refine x_dup (i := 16) (pc' := 28) rfl rfl rfl ?_
      refine m_getf (i := 17) (pc' := 31) rfl rfl flX5_21 (sh8 G) rfl rfl ?_
      rw [e1]
      refine x_iconst (i := 18) (pc' := 32) rfl rfl ?_
      refine x_isub (i := 19) (pc' := 33) rfl rfl ?_
      refine m_putf (kz := 2) (i := 20) (pc' := 36) rfl rfl flX5_21 (sh8 G) (fun _ => rfl) rfl (Nat.le_of_ble_eq_true rfl) rfl rfl ?_
      refine x_aload_n (i := 21) (pc' := 37) rfl rfl rfl rfl ?_
      refine x_aload_n (i := 22) (pc' := 38) rfl rfl rfl rfl ?_
      refine m_getf (i := 23) (pc' := 41) rfl rfl flX5_13 (sh8 G) rfl rfl ?_
      refine x_aload_n (i := 24) (pc' := 42) rfl rfl rfl rfl ?_
      refine m_getf (i := 25) (pc' := 45) rfl rfl flX5_17 (sh8 G) rfl rfl ?_
      rw [e2]
      refine m_aald (v := 17) (i := 26) (pc' := 46) rfl rfl (by omega) e.symm ?_
      refine m_callV (i := 27) (pc' := 49) (av := [_]) (rest := []) rfl rfl (by decide) lX5_25 (sh1 G) rfl rfl rfl rfl rfl (Nat.le_of_ble_eq_true rfl) (Nat.le_refl _) (Nat.le_refl _) (s_X9_copyFrom_1_17 ?_)
      dsimp only [psh]
      refine x_aload_n (i := 28) (pc' := 50) rfl rfl rfl rfl ?_
      refine m_getf (i := 29) (pc' := 53) rfl rfl flX5_21 (sh8 G) rfl rfl ?_
      rw [e4]
      exact m_ireturn (i := 30) rfl rfl (hQ)
    · have e : 10 + 7 * nx.toNat = 24 := (by rw [h]; rfl)
      rw [e] at hQ
      have e4 := e3 (stm m 8 1 nx) (m 8 2 - 1) 24 (by omega)
      refine x_aload_n (i := 5) (pc' := 11) rfl rfl rfl rfl ?_
      refine x_aload_n (i := 6) (pc' := 12) rfl rfl rfl rfl ?_
      refine m_getf (i := 7) (pc' := 15) rfl rfl flX5_17 (sh8 G) rfl rfl ?_
      refine x_bipush (i := 8) (pc' := 17) rfl rfl (by decide) ?_
      refine x_iadd (i := 9) (pc' := 18) rfl rfl ?_
      refine x_iconst (i := 10) (pc' := 19) rfl rfl ?_
      refine x_isub (i := 11) (pc' := 20) rfl rfl ?_
      refine x_bipush (i := 12) (pc' := 22) rfl rfl (by decide) ?_
      refine x_irem (i := 13) (pc' := 23) rfl rfl ⟨by omega, by omega⟩ ⟨by omega, by omega⟩ (by omega) (by omega) ?_
      rw [hnx]
      refine m_putf (kz := 1) (i := 14) (pc' := 26) rfl rfl flX5_17 (sh8 G) (fun _ => rfl) rfl (Nat.le_of_ble_eq_true rfl) rfl rfl ?_
      refine x_aload_n (i := 15) (pc' := 27) rfl rfl rfl rfl ?_
      refine x_dup (i := 16) (pc' := 28) rfl rfl rfl ?_
      refine m_getf (i := 17) (pc' := 31) rfl rfl flX5_21 (sh8 G) rfl rfl ?_
      rw [e1]
      refine x_iconst (i := 18) (pc' := 32) rfl rfl ?_
      refine x_isub (i := 19) (pc' := 33) rfl rfl ?_
      refine m_putf (kz := 2) (i := 20) (pc' := 36) rfl rfl flX5_21 (sh8 G) (fun _ => rfl) rfl (Nat.le_of_ble_eq_true rfl) rfl rfl ?_
      refine x_aload_n (i := 21) (pc' := 37) rfl rfl rfl rfl ?_
      refine x_aload_n (i := 22) (pc' := 38) rfl rfl rfl rfl ?_
      refine m_getf (i := 23) (pc' := 41) rfl rfl flX5_13 (sh8 G) rfl rfl ?_
      refine x_aload_n (i := 24) (pc' := 42) rfl rfl rfl rfl ?_
      refine m_getf (i := 25) (pc' := 45) rfl rfl flX5_17 (sh8 G) rfl rfl ?_
      rw [e2]
      refine m_aald (v := 24) (i := 26) (pc' := 46) rfl rfl (by omega) e.symm ?_
      refine m_callV (i := 27) (pc' := 49) (av := [_]) (rest := []) rfl rfl (by decide) lX5_25 (sh1 G) rfl rfl rfl rfl rfl (Nat.le_of_ble_eq_true rfl) (Nat.le_refl _) (Nat.le_refl _) (s_X9_copyFrom_1_24 ?_)
      dsimp only [psh]
      refine x_aload_n (i := 28) (pc' := 50) rfl rfl rfl rfl ?_
      refine m_getf (i := 29) (pc' := 53) rfl rfl flX5_21 (sh8 G) rfl rfl ?_
      rw [e4]
      exact m_ireturn (i := 30) rfl rfl (hQ)
    · have e : 10 + 7 * nx.toNat = 31 := (by rw [h]; rfl)
      rw [e] at hQ
      have e4 := e3 (stm m 8 1 nx) (m 8 2 - 1) 31 (by omega)
      refine x_aload_n (i := 5) (pc' := 11) rfl rfl rfl rfl ?_
      refine x_aload_n (i := 6) (pc' := 12) rfl rfl rfl rfl ?_
      refine m_getf (i := 7) (pc' := 15) rfl rfl flX5_17 (sh8 G) rfl rfl ?_
      refine x_bipush (i := 8) (pc' := 17) rfl rfl (by decide) ?_
      refine x_iadd (i := 9) (pc' := 18) rfl rfl ?_
      refine x_iconst (i := 10) (pc' := 19) rfl rfl ?_
      refine x_isub (i := 11) (pc' := 20) rfl rfl ?_
      refine x_bipush (i := 12) (pc' := 22) rfl rfl (by decide) ?_
      refine x_irem (i := 13) (pc' := 23) rfl rfl ⟨by omega, by omega⟩ ⟨by omega, by omega⟩ (by omega) (by omega) ?_
      rw [hnx]
      refine m_putf (kz := 1) (i := 14) (pc' := 26) rfl rfl flX5_17 (sh8 G) (fun _ => rfl) rfl (Nat.le_of_ble_eq_true rfl) rfl rfl ?_
      refine x_aload_n (i := 15) (pc' := 27) rfl rfl rfl rfl ?_
      refine x_dup (i := 16) (pc' := 28) rfl rfl rfl ?_
      refine m_getf (i := 17) (pc' := 31) rfl rfl flX5_21 (sh8 G) rfl rfl ?_
      rw [e1]
      refine x_iconst (i := 18) (pc' := 32) rfl rfl ?_
      refine x_isub (i := 19) (pc' := 33) rfl rfl ?_
      refine m_putf (kz := 2) (i := 20) (pc' := 36) rfl rfl flX5_21 (sh8 G) (fun _ => rfl) rfl (Nat.le_of_ble_eq_true rfl) rfl rfl ?_
      refine x_aload_n (i := 21) (pc' := 37) rfl rfl rfl rfl ?_
      refine x_aload_n (i := 22) (pc' := 38) rfl rfl rfl rfl ?_
      refine m_getf (i := 23) (pc' := 41) rfl rfl flX5_13 (sh8 G) rfl rfl ?_
      refine x_aload_n (i := 24) (pc' := 42) rfl rfl rfl rfl ?_
      refine m_getf (i := 25) (pc' := 45) rfl rfl flX5_17 (sh8 G) rfl rfl ?_
      rw [e2]
      refine m_aald (v := 31) (i := 26) (pc' := 46) rfl rfl (by omega) e.symm ?_
      refine m_callV (i := 27) (pc' := 49) (av := [_]) (rest := []) rfl rfl (by decide) lX5_25 (sh1 G) rfl rfl rfl rfl rfl (Nat.le_of_ble_eq_true rfl) (Nat.le_refl _) (Nat.le_refl _) (s_X9_copyFrom_1_31 ?_)
      dsimp only [psh]
      refine x_aload_n (i := 28) (pc' := 50) rfl rfl rfl rfl ?_
      refine m_getf (i := 29) (pc' := 53) rfl rfl flX5_21 (sh8 G) rfl rfl ?_
      rw [e4]
      exact m_ireturn (i := 30) rfl rfl (hQ)
    · have e : 10 + 7 * nx.toNat = 38 := (by rw [h]; rfl)
      rw [e] at hQ
      have e4 := e3 (stm m 8 1 nx) (m 8 2 - 1) 38 (by omega)
      refine x_aload_n (i := 5) (pc' := 11) rfl rfl rfl rfl ?_
      refine x_aload_n (i := 6) (pc' := 12) rfl rfl rfl rfl ?_
      refine m_getf (i := 7) (pc' := 15) rfl rfl flX5_17 (sh8 G) rfl rfl ?_
      refine x_bipush (i := 8) (pc' := 17) rfl rfl (by decide) ?_
      refine x_iadd (i := 9) (pc' := 18) rfl rfl ?_
      refine x_iconst (i := 10) (pc' := 19) rfl rfl ?_
      refine x_isub (i := 11) (pc' := 20) rfl rfl ?_
      refine x_bipush (i := 12) (pc' := 22) rfl rfl (by decide) ?_
      refine x_irem (i := 13) (pc' := 23) rfl rfl ⟨by omega, by omega⟩ ⟨by omega, by omega⟩ (by omega) (by omega) ?_
      rw [hnx]
      refine m_putf (kz := 1) (i := 14) (pc' := 26) rfl rfl flX5_17 (sh8 G) (fun _ => rfl) rfl (Nat.le_of_ble_eq_true rfl) rfl rfl ?_
      refine x_aload_n (i := 15) (pc' := 27) rfl rfl rfl rfl ?_
      refine x_dup (i := 16) (pc' := 28) rfl rfl rfl ?_
      refine m_getf (i := 17) (pc' := 31) rfl rfl flX5_21 (sh8 G) rfl rfl ?_
      rw [e1]
      refine x_iconst (i := 18) (pc' := 32) rfl rfl ?_
      refine x_isub (i := 19) (pc' := 33) rfl rfl ?_
      refine m_putf (kz := 2) (i := 20) (pc' := 36) rfl rfl flX5_21 (sh8 G) (fun _ => rfl) rfl (Nat.le_of_ble_eq_true rfl) rfl rfl ?_
      refine x_aload_n (i := 21) (pc' := 37) rfl rfl rfl rfl ?_
      refine x_aload_n (i := 22) (pc' := 38) rfl rfl rfl rfl ?_
      refine m_getf (i := 23) (pc' := 41) rfl rfl flX5_13 (sh8 G) rfl rfl ?_
      refine x_aload_n (i := 24) (pc' := 42) rfl rfl rfl rfl ?_
      refine m_getf (i := 25) (pc' := 45) rfl rfl flX5_17 (sh8 G) rfl rfl ?_
      rw [e2]
      refine m_aald (v := 38) (i := 26) (pc' := 46) rfl rfl (by omega) e.symm ?_
      refine m_callV (i := 27) (pc' := 49) (av := [_]) (rest := []) rfl rfl (by decide) lX5_25 (sh1 G) rfl rfl rfl rfl rfl (Nat.le_of_ble_eq_true rfl) (Nat.le_refl _) (Nat.le_refl _) (s_X9_copyFrom_1_38 ?_)
      dsimp only [psh]
      refine x_aload_n (i := 28) (pc' := 50) rfl rfl rfl rfl ?_
      refine m_getf (i := 29) (pc' := 53) rfl rfl flX5_21 (sh8 G) rfl rfl ?_
      rw [e4]
      exact m_ireturn (i := 30) rfl rfl (hQ)
    · have e : 10 + 7 * nx.toNat = 45 := (by rw [h]; rfl)
      rw [e] at hQ
      have e4 := e3 (stm m 8 1 nx) (m 8 2 - 1) 45 (by omega)
      refine x_aload_n (i := 5) (pc' := 11) rfl rfl rfl rfl ?_
      refine x_aload_n (i := 6) (pc' := 12) rfl rfl rfl rfl ?_
      refine m_getf (i := 7) (pc' := 15) rfl rfl flX5_17 (sh8 G) rfl rfl ?_
      refine x_bipush (i := 8) (pc' := 17) rfl rfl (by decide) ?_
      refine x_iadd (i := 9) (pc' := 18) rfl rfl ?_
      refine x_iconst (i := 10) (pc' := 19) rfl rfl ?_
      refine x_isub (i := 11) (pc' := 20) rfl rfl ?_
      refine x_bipush (i := 12) (pc' := 22) rfl rfl (by decide) ?_
      refine x_irem (i := 13) (pc' := 23) rfl rfl ⟨by omega, by omega⟩ ⟨by omega, by omega⟩ (by omega) (by omega) ?_
      rw [hnx]
      refine m_putf (kz := 1) (i := 14) (pc' := 26) rfl rfl flX5_17 (sh8 G) (fun _ => rfl) rfl (Nat.le_of_ble_eq_true rfl) rfl rfl ?_
      refine x_aload_n (i := 15) (pc' := 27) rfl rfl rfl rfl ?_
      refine x_dup (i := 16) (pc' := 28) rfl rfl rfl ?_
      refine m_getf (i := 17) (pc' := 31) rfl rfl flX5_21 (sh8 G) rfl rfl ?_
      rw [e1]
      refine x_iconst (i := 18) (pc' := 32) rfl rfl ?_
      refine x_isub (i := 19) (pc' := 33) rfl rfl ?_
      refine m_putf (kz := 2) (i := 20) (pc' := 36) rfl rfl flX5_21 (sh8 G) (fun _ => rfl) rfl (Nat.le_of_ble_eq_true rfl) rfl rfl ?_
      refine x_aload_n (i := 21) (pc' := 37) rfl rfl rfl rfl ?_
      refine x_aload_n (i := 22) (pc' := 38) rfl rfl rfl rfl ?_
      refine m_getf (i := 23) (pc' := 41) rfl rfl flX5_13 (sh8 G) rfl rfl ?_
      refine x_aload_n (i := 24) (pc' := 42) rfl rfl rfl rfl ?_
      refine m_getf (i := 25) (pc' := 45) rfl rfl flX5_17 (sh8 G) rfl rfl ?_
      rw [e2]
      refine m_aald (v := 45) (i := 26) (pc' := 46) rfl rfl (by omega) e.symm ?_
      refine m_callV (i := 27) (pc' := 49) (av := [_]) (rest := []) rfl rfl (by decide) lX5_25 (sh1 G) rfl rfl rfl rfl rfl (Nat.le_of_ble_eq_true rfl) (Nat.le_refl _) (Nat.le_refl _) (s_X9_copyFrom_1_45 ?_)
      dsimp only [psh]
      refine x_aload_n (i := 28) (pc' := 50) rfl rfl rfl rfl ?_
      refine m_getf (i := 29) (pc' := 53) rfl rfl flX5_21 (sh8 G) rfl rfl ?_
      rw [e4]
      exact m_ireturn (i := 30) rfl rfl (hQ)
  · skip
    refine x_bipush (i := 3) (pc' := 9) rfl rfl (by decide) ?_
    exact m_ireturn (i := 4) rfl rfl (by rw [if_pos (by assumption), if_pos (by assumption)] at hQ; exact hQ)

theorem s_X9_signProperty {G : GG} {m : Mem} {Q : Option Value → Mem → Prop} {a b : Int} (hM : MR m) (hs : SN m) (ha : 0 ≤ a ∧ a ≤ 16) (hb : 0 ≤ b ∧ b ≤ 5) (hQ : Q (some (.int (J (if b = 5 then co m a else m 3 (a * 5 + b))))) m) : CM G 3 mX9_signProperty [.ref (G.2.2.2 1), .int (J (a)), .int (J (b))] m Q := by
  refine CM.of dkX9_signProperty (Or.inl rfl) [some _, some _, some _] rfl (Nat.le_of_ble_eq_true rfl) ?_
  refine x_iload_n (i := 0) (pc' := 1) rfl rfl rfl rfl ?_
  refine x_iconst (i := 1) (pc' := 2) rfl rfl ?_
  refine x_icmpne (i := 2) (pc' := 5) (tgt := 16) rfl rfl (by decide) ⟨by omega, by omega⟩ ⟨by omega, by omega⟩ (fun c1 => ?_) (fun c1 => ?_)
  · skip
    refine x_aload_n (i := 8) (pc' := 17) rfl rfl rfl rfl ?_
    refine m_getf (i := 9) (pc' := 20) rfl rfl flX9_12 (sh1 G) rfl rfl ?_
    refine x_iload_n (i := 10) (pc' := 21) rfl rfl rfl rfl ?_
    refine x_iload_n (i := 11) (pc' := 22) rfl rfl rfl rfl ?_
    refine m_callV (i := 12) (pc' := 25) (av := [_, _]) (rest := []) rfl rfl (by decide) lX9_46 (sh2 G) rfl rfl rfl rfl rfl (Nat.le_of_ble_eq_true rfl) (Nat.le_refl _) (Nat.le_refl _) (s_X3_trait (by omega) (by omega) ?_)
    dsimp only [psh]
    exact m_ireturn (i := 13) rfl rfl (by (repeat' split at hQ) <;> first | exact hQ | (exfalso; omega))
  · skip
    refine x_aload_n (i := 3) (pc' := 6) rfl rfl rfl rfl ?_
    refine m_getf (i := 4) (pc' := 9) rfl rfl flX9_21 (sh1 G) rfl rfl ?_
    refine x_iload_n (i := 5) (pc' := 10) rfl rfl rfl rfl ?_
    refine m_callV (i := 6) (pc' := 13) (av := [_]) (rest := []) rfl rfl (by decide) lX9_42 (sh5 G) rfl rfl rfl rfl rfl (Nat.le_of_ble_eq_true rfl) (Nat.le_refl _) (Nat.le_refl _) (s_X8_countOf hM hs (by omega) ?_)
    dsimp only [psh]
    refine x_goto (i := 7) (pc' := 25) rfl (by decide) ?_
    exact m_ireturn (i := 13) rfl rfl (by (repeat' split at hQ) <;> first | exact hQ | (exfalso; omega))
theorem s_X9_sortOfWord {G : GG} {m : Mem} {Q : Option Value → Mem → Prop} {a : Int} (hs : SN m) (hwd : ∀ i, 0 ≤ i → i < m 5 1 → 0 ≤ m 6 (i * 3 + 0) ∧ m 6 (i * 3 + 0) < 16) (ha : 0 ≤ a ∧ a < m 5 1) (hQ : Q (some (.int (J (sw m a)))) m) : CM G 2 mX9_sortOfWord [.ref (G.2.2.2 1), .int (J (a))] m Q := by
  refine CM.of dkX9_sortOfWord (Or.inl rfl) [some _, some _] rfl (Nat.le_of_ble_eq_true rfl) ?_
  have hw := hwd a (by omega) (by omega)
  refine x_aload_n (i := 0) (pc' := 1) rfl rfl rfl rfl ?_
  refine m_getf (i := 1) (pc' := 4) rfl rfl flX9_12 (sh1 G) rfl rfl ?_
  refine x_aload_n (i := 2) (pc' := 5) rfl rfl rfl rfl ?_
  refine m_getf (i := 3) (pc' := 8) rfl rfl flX9_21 (sh1 G) rfl rfl ?_
  refine x_iload_n (i := 4) (pc' := 9) rfl rfl rfl rfl ?_
  refine m_callV (i := 5) (pc' := 12) (av := [_]) (rest := [_]) rfl rfl (by decide) lX9_50 (sh5 G) rfl rfl rfl rfl rfl (Nat.le_of_ble_eq_true rfl) (Nat.le_refl _) (Nat.le_refl _) (s_X8_signIn hs (by omega) ?_)
  dsimp only [psh]
  refine x_iconst (i := 6) (pc' := 13) rfl rfl ?_
  refine m_callV (i := 7) (pc' := 16) (av := [_, _]) (rest := []) rfl rfl (by decide) lX9_46 (sh2 G) rfl rfl rfl rfl rfl (Nat.le_of_ble_eq_true rfl) (Nat.le_refl _) (Nat.le_refl _) (s_X3_trait (by omega) (by omega) ?_)
  dsimp only [psh]
  exact m_ireturn (i := 8) rfl rfl (hQ)
theorem co_nn (m : Mem) (k : Int) : 0 ≤ co m k ∧ co m k ≤ (m 5 1).toNat := by
  have h : ∀ (n : Nat) (j x : Int), 0 ≤ x → 0 ≤ it (fun i x => if m 6 (i * 3 + 0) = k then x + 1 else x) j n x ∧ it (fun i x => if m 6 (i * 3 + 0) = k then x + 1 else x) j n x ≤ x + n := by
    intro n
    induction n with
    | zero => intro j x h; exact ⟨h, by show x ≤ x + 0; omega⟩
    | succ n ih =>
      intro j x h
      have := ih (j + 1) (if m 6 (j * 3 + 0) = k then x + 1 else x) (by split <;> omega)
      refine ⟨this.1, Int.le_trans this.2 ?_⟩
      split <;> omega
  have := h (m 5 1).toNat 0 0 (by omega)
  unfold co
  omega
theorem rnm_2 (m : Mem) (k : Int) : rnm m k 2 = m 2 := by
  have h : ∀ (n : Nat) (j : Int) (x : Mem), it (fun i (x : Mem) => if k < x 6 (i * 3) then stm x 6 (i * 3) (x 6 (i * 3) - 1) else x) j n x 2 = x 2 := by
    intro n
    induction n with
    | zero => intro j x; rfl
    | succ n ih =>
      intro j x
      rw [it, ih]
      split <;> rfl
  exact h _ _ _
theorem rnm_MR {m : Mem} (hM : MR m) (k : Int) (h0 : ∀ i, 0 ≤ i → i < m 5 1 → 0 ≤ m 6 (i * 3)) (hs : SN m) : MR (rnm m k) := by
  have h : ∀ (n : Nat) (j : Int) (x : Mem), 0 ≤ j → MR x → (∀ i, j ≤ i → i < j + n → 0 ≤ x 6 (i * 3)) → MR (it (fun i (x : Mem) => if k < x 6 (i * 3) then stm x 6 (i * 3) (x 6 (i * 3) - 1) else x) j n x) := by
    intro n
    induction n with
    | zero => intro j x _ h _; exact h
    | succ n ih =>
      intro j x hj h h0
      have h1 := h0 j (by omega) (by omega)
      have h2 := h 6 (j * 3)
      rw [it]
      split
      · exact ih _ _ (by omega) (h.st (by omega)) (fun i a b => by rw [stm_ix _ _ _ (by omega)]; exact h0 i (by omega) (by omega))
      · exact ih _ _ (by omega) h (fun i a b => h0 i (by omega) (by omega))
  have h1 := hs.1
  exact h _ _ _ (by omega) hM (fun i a b => h0 i (by omega) (by omega))
theorem s_X9_removeSign {G : GG} {m : Mem} {Q : Option Value → Mem → Prop} {k : Int} (hM : MR m) (hn : CN m) (hs : SN m) (hlo : ∀ i, 0 ≤ i → i < m 5 1 → 0 ≤ m 6 (i * 3)) (ha : rg k) (hQ : Q (some (.int (J (if 0 ≤ k ∧ k < m 2 2 then (if 0 < co m k then -3 else m 2 2 - 1) else -2)))) (if (0 ≤ k ∧ k < m 2 2) ∧ co m k ≤ 0 then rmm (rnm m k) k else m)) : CM G 3 mX9_removeSign [.ref (G.2.2.2 1), .int (J (k))] m Q := by
  refine CM.of dkX9_removeSign (Or.inl rfl) [some _, some _] rfl (Nat.le_of_ble_eq_true rfl) ?_
  have hn0 := hn.1; have hn1 := hn.2
  have hs0 := hs.1; have hs1 := hs.2
  have hc := co_nn m k
  have e2 := congrFun (rnm_2 m k) 2
  refine x_aload_n (i := 0) (pc' := 1) rfl rfl rfl rfl ?_
  refine m_getf (i := 1) (pc' := 4) rfl rfl flX9_12 (sh1 G) rfl rfl ?_
  refine x_iload_n (i := 2) (pc' := 5) rfl rfl rfl rfl ?_
  refine m_callV (i := 3) (pc' := 8) (av := [_]) (rest := []) rfl rfl (by decide) lX9_53 (sh2 G) rfl rfl rfl rfl rfl (Nat.le_of_ble_eq_true rfl) (Nat.le_refl _) (Nat.le_refl _) (s_X3_holds hn (by omega) ?_)
  dsimp only [psh]
  refine x_ifne (i := 4) (pc' := 11) (tgt := 14) rfl rfl (by decide) (by (repeat' split at *) <;> omega) (fun c1 => ?_) (fun c1 => ?_)
  · skip
    refine x_aload_n (i := 7) (pc' := 15) rfl rfl rfl rfl ?_
    refine m_getf (i := 8) (pc' := 18) rfl rfl flX9_21 (sh1 G) rfl rfl ?_
    refine x_iload_n (i := 9) (pc' := 19) rfl rfl rfl rfl ?_
    refine m_callV (i := 10) (pc' := 22) (av := [_]) (rest := []) rfl rfl (by decide) lX9_42 (sh5 G) rfl rfl rfl rfl rfl (Nat.le_of_ble_eq_true rfl) (Nat.le_refl _) (Nat.le_refl _) (s_X8_countOf hM hs (by omega) ?_)
    dsimp only [psh]
    refine x_ifle (i := 11) (pc' := 25) (tgt := 28) rfl rfl (by decide) (by (repeat' split at *) <;> omega) (fun c2 => ?_) (fun c2 => ?_)
    · skip
      refine x_aload_n (i := 14) (pc' := 29) rfl rfl rfl rfl ?_
      refine m_getf (i := 15) (pc' := 32) rfl rfl flX9_21 (sh1 G) rfl rfl ?_
      refine x_iload_n (i := 16) (pc' := 33) rfl rfl rfl rfl ?_
      refine m_callV (i := 17) (pc' := 36) (av := [_]) (rest := []) rfl rfl (by decide) lX9_57 (sh5 G) rfl rfl rfl rfl rfl (Nat.le_of_ble_eq_true rfl) (Nat.le_refl _) (Nat.le_refl _) (s_X8_renumberAbove hM hs (by omega) hlo ?_)
      dsimp only [psh]
      refine x_aload_n (i := 18) (pc' := 37) rfl rfl rfl rfl ?_
      refine m_getf (i := 19) (pc' := 40) rfl rfl flX9_12 (sh1 G) rfl rfl ?_
      refine x_iload_n (i := 20) (pc' := 41) rfl rfl rfl rfl ?_
      refine m_callV (i := 21) (pc' := 44) (av := [_]) (rest := []) rfl rfl (by decide) lX9_61 (sh2 G) rfl rfl rfl rfl rfl (Nat.le_of_ble_eq_true rfl) (Nat.le_refl _) (Nat.le_refl _) (s_X3_remove (rnm_MR hM k hlo hs) (by unfold CN; rw [e2]; exact hn) (by omega) ?_)
      dsimp only [psh]
      rw [e2]
      exact m_ireturn (i := 22) rfl rfl (by (repeat' split at hQ) <;> (repeat' split) <;> first | exact hQ | (exfalso; omega))
    · skip
      refine x_bipush (i := 12) (pc' := 27) rfl rfl (by decide) ?_
      exact m_ireturn (i := 13) rfl rfl (by (repeat' split at hQ) <;> (repeat' split) <;> first | exact hQ | (exfalso; omega))
  · skip
    refine x_bipush (i := 5) (pc' := 13) rfl rfl (by decide) ?_
    exact m_ireturn (i := 6) rfl rfl (by (repeat' split at hQ) <;> (repeat' split) <;> first | exact hQ | (exfalso; omega))
theorem s_X9_addWord {G : GG} {m : Mem} {Q : Option Value → Mem → Prop} {k f t : Int} (hn : CN m) (hs : SN m) (h1 : rg k) (h2 : rg f) (h3 : rg t) (hQ : Q (some (.int (J (if (0 ≤ k ∧ k < m 2 2) ∧ (-1 ≤ f ∧ f ≤ 5) ∧ (-1 ≤ t ∧ t ≤ 5) then (if m 5 1 < 16 then m 5 1 else -4) else -2)))) (if ((0 ≤ k ∧ k < m 2 2) ∧ (-1 ≤ f ∧ f ≤ 5) ∧ (-1 ≤ t ∧ t ≤ 5)) ∧ m 5 1 < 16 then apw m k f t else m)) : CM G 3 mX9_addWord [.ref (G.2.2.2 1), .int (J (k)), .int (J (f)), .int (J (t))] m Q := by
  refine CM.of dkX9_addWord (Or.inl rfl) [some _, some _, some _, some _] rfl (Nat.le_of_ble_eq_true rfl) ?_
  have hn0 := hn.1; have hn1 := hn.2
  have hs0 := hs.1; have hs1 := hs.2
  refine x_aload_n (i := 0) (pc' := 1) rfl rfl rfl rfl ?_
  refine m_getf (i := 1) (pc' := 4) rfl rfl flX9_12 (sh1 G) rfl rfl ?_
  refine x_iload_n (i := 2) (pc' := 5) rfl rfl rfl rfl ?_
  refine m_callV (i := 3) (pc' := 8) (av := [_]) (rest := []) rfl rfl (by decide) lX9_53 (sh2 G) rfl rfl rfl rfl rfl (Nat.le_of_ble_eq_true rfl) (Nat.le_refl _) (Nat.le_refl _) (s_X3_holds hn (by omega) ?_)
  dsimp only [psh]
  refine x_ifeq (i := 4) (pc' := 11) (tgt := 29) rfl rfl (by decide) (by (repeat' split at *) <;> omega) (fun c1 => ?_) (fun c1 => ?_)
  · skip
    refine x_bipush (i := 15) (pc' := 31) rfl rfl (by decide) ?_
    exact m_ireturn (i := 16) rfl rfl (by (repeat' split at hQ) <;> (repeat' split) <;> first | exact hQ | (exfalso; omega))
  · skip
    refine x_iload_n (i := 5) (pc' := 12) rfl rfl rfl rfl ?_
    refine x_iconst (i := 6) (pc' := 13) rfl rfl ?_
    refine x_iconst (i := 7) (pc' := 14) rfl rfl ?_
    refine m_callS (i := 8) (pc' := 17) (av := [_, _, _]) (rest := []) rfl rfl (by decide) lX9_64 rfl rfl (Nat.le_of_ble_eq_true rfl) (Nat.le_refl _) (Nat.le_refl _) (s_X11_isWithin (by omega) (by omega) (by omega) ?_)
    dsimp only [psh]
    refine x_ifeq (i := 9) (pc' := 20) (tgt := 29) rfl rfl (by decide) (by (repeat' split at *) <;> omega) (fun c2 => ?_) (fun c2 => ?_)
    · skip
      refine x_bipush (i := 15) (pc' := 31) rfl rfl (by decide) ?_
      exact m_ireturn (i := 16) rfl rfl (by (repeat' split at hQ) <;> (repeat' split) <;> first | exact hQ | (exfalso; omega))
    · skip
      refine x_iload_n (i := 10) (pc' := 21) rfl rfl rfl rfl ?_
      refine x_iconst (i := 11) (pc' := 22) rfl rfl ?_
      refine x_iconst (i := 12) (pc' := 23) rfl rfl ?_
      refine m_callS (i := 13) (pc' := 26) (av := [_, _, _]) (rest := []) rfl rfl (by decide) lX9_64 rfl rfl (Nat.le_of_ble_eq_true rfl) (Nat.le_refl _) (Nat.le_refl _) (s_X11_isWithin (by omega) (by omega) (by omega) ?_)
      dsimp only [psh]
      refine x_ifne (i := 14) (pc' := 29) (tgt := 32) rfl rfl (by decide) (by (repeat' split at *) <;> omega) (fun c3 => ?_) (fun c3 => ?_)
      · skip
        refine x_aload_n (i := 17) (pc' := 33) rfl rfl rfl rfl ?_
        refine m_getf (i := 18) (pc' := 36) rfl rfl flX9_21 (sh1 G) rfl rfl ?_
        refine x_iload_n (i := 19) (pc' := 37) rfl rfl rfl rfl ?_
        refine x_iload_n (i := 20) (pc' := 38) rfl rfl rfl rfl ?_
        refine x_iload_n (i := 21) (pc' := 39) rfl rfl rfl rfl ?_
        refine m_callV (i := 22) (pc' := 42) (av := [_, _, _]) (rest := []) rfl rfl (by decide) lX9_68 (sh5 G) rfl rfl rfl rfl rfl (Nat.le_of_ble_eq_true rfl) (Nat.le_refl _) (Nat.le_refl _) (s_X8_append hs ?_)
        dsimp only [psh]
        exact m_ireturn (i := 23) rfl rfl (by (repeat' split at hQ) <;> (repeat' split) <;> first | exact hQ | (exfalso; omega))
      · skip
        refine x_bipush (i := 15) (pc' := 31) rfl rfl (by decide) ?_
        exact m_ireturn (i := 16) rfl rfl (by (repeat' split at hQ) <;> (repeat' split) <;> first | exact hQ | (exfalso; omega))
end
section
def flm (m : Mem) (q : Nat) (n : Nat) (v : Int) : Mem := it (fun j (x : Mem) => stm x q j v) 0 n m
def lyo (m : Mem) (a v : Int) : Mem := stm (it (fun s (x : Mem) => if x 7 s = v then stm x 7 s (m 7 a) else x) 0 6 m) 7 a v
def im2 (j : Int) (x : Int × Mem) : Mem := stm (stm (iw x.2 j (sw x.2 j)) 59 j x.1) 57 5 (x.1 + 1)
def ipr (j : Int) (x : Int × Mem) : Int × Mem := (if sw x.2 j = 3 then x.1 + 1 else x.1, if im2 j x 60 j = 0 then im2 j x else stm (im2 j x) 57 6 (im2 j x 57 6 + 1))
def ip0 (m : Mem) : Mem := stm (stm (flm m 58 6 (-1)) 57 6 0) 57 5 0
def ipm (m : Mem) (w : Int) : Mem := (it (fun j x => ipr j x) 0 (mn w (m 5 1)).toNat (0, ip0 m)).2
def pa (m : Mem) (s : Int) : Mem := if (0 ≤ s ∧ s ≤ 5) ∧ m 64 1 < 32 then stm (stm m 65 (m 64 1) s) 64 1 (m 64 1 + 1) else m
def pw (j : Int) (x : Mem) : Mem := pa (pa x (x 6 (j * 3 + 1))) ((pa x (x 6 (j * 3 + 1))) 6 (j * 3 + 2))
def fwm (m : Mem) : Mem := it (fun j x => pw j x) 0 (m 5 1).toNat (stm m 64 1 0)
def ple (m : Mem) : Int := it (fun n x => x + ab (m 7 (m 65 n) - m 7 (m 65 (n - 1)))) 1 (m 64 1 - 1).toNat 0
def pss (m : Mem) : Int := it (fun n x => io x (1 * 2 ^ (m 65 n).toNat)) 0 (m 64 1).toNat 0
def ck (j : Int) (x : (Int × Int) × Mem) : (Int × Int) × Mem := if sw x.2 j = 3 then ((0, 0), stm x.2 63 1 (x.2 63 1 + x.1.2)) else if sw x.2 j = 0 then ((x.1.1, mn (x.1.2 + 1) x.1.1), stm x.2 63 0 (x.2 63 0 + x.1.1)) else ((x.1.1 + 1, x.1.2), x.2)
def ckt (m : Mem) : (Int × Int) × Mem := it (fun j x => ck j x) 0 (m 5 1).toNat ((0, 0), stm (stm m 63 0 0) 63 1 0)
def ckm (m : Mem) : Mem := stm (ckt m).2 63 1 ((ckt m).2 63 1 + (ckt m).1.2)
/-- the same signs and words -/
def SW (m x : Mem) : Prop := x 2 = m 2 ∧ x 3 = m 3 ∧ x 5 = m 5 ∧ x 6 = m 6
theorem SW.rf (m : Mem) : SW m m := ⟨rfl, rfl, rfl, rfl⟩
theorem SW.st {m x : Mem} (h : SW m x) {q : Nat} (hq : q ≠ 2 ∧ q ≠ 3 ∧ q ≠ 5 ∧ q ≠ 6) (k z : Int) : SW m (stm x q k z) := ⟨by rw [stm_ne x k z (Ne.symm hq.1)]; exact h.1, by rw [stm_ne x k z (Ne.symm hq.2.1)]; exact h.2.1, by rw [stm_ne x k z (Ne.symm hq.2.2.1)]; exact h.2.2.1, by rw [stm_ne x k z (Ne.symm hq.2.2.2)]; exact h.2.2.2⟩
theorem iw0_SW {m x : Mem} (h : SW m x) (i : Int) : SW m (iw0 x i) := ((h.st (by decide) _ _).st (by decide) _ _).st (by decide) _ _
theorem iw_SW {m x : Mem} (h : SW m x) (i s : Int) : SW m (iw x i s) := by
  have h0 := iw0_SW h i
  unfold iw
  split
  · split
    · exact h0.st (by decide) _ _
    · exact h0
  · split
    · exact (h0.st (by decide) _ _).st (by decide) _ _
    · split
      · exact ((h0.st (by decide) _ _).st (by decide) _ _).st (by decide) _ _
      · exact h0
theorem iw0_MR {x : Mem} (h : MR x) (i : Int) : MR (iw0 x i) := ((h.st (by decide)).st (by decide)).st (by decide)
theorem iw_MR {x : Mem} (h : MR x) (i s : Int) : MR (iw x i s) := by
  have h0 := iw0_MR h i
  unfold iw
  split
  · split
    · exact h0.st (h _ _)
    · exact h0
  · split
    · exact (h0.st (tha_rg h _)).st (by split <;> decide)
    · split
      · exact ((h0.st (tha_rg h _)).st (tha_rg h _)).st (by split <;> decide)
      · exact h0
theorem pa_ne (m : Mem) (s : Int) {q : Nat} (h : q ≠ 64) (h2 : q ≠ 65) : pa m s q = m q := by
  unfold pa
  split
  · rw [stm_ne _ _ _ h, stm_ne _ _ _ h2]
  · rfl
theorem pa_n {m : Mem} {s : Int} (h : 0 ≤ m 64 1 ∧ m 64 1 ≤ 32) : (0 ≤ pa m s 64 1 ∧ pa m s 64 1 ≤ 32) ∧ m 64 1 ≤ pa m s 64 1 ∧ pa m s 64 1 ≤ m 64 1 + 1 := by
  unfold pa
  split
  · rw [stm_eq]; omega
  · omega
theorem pa_MR {m : Mem} (hM : MR m) {s : Int} (hs : rg s) (h : 0 ≤ m 64 1 ∧ m 64 1 ≤ 32) : MR (pa m s) := by
  unfold pa
  split
  · exact (hM.st hs).st (by omega)
  · exact hM
theorem SW.pa {m x : Mem} (h : SW m x) (s : Int) : SW m (pa x s) := ⟨by rw [pa_ne x s (by decide) (by decide)]; exact h.1, by rw [pa_ne x s (by decide) (by decide)]; exact h.2.1, by rw [pa_ne x s (by decide) (by decide)]; exact h.2.2.1, by rw [pa_ne x s (by decide) (by decide)]; exact h.2.2.2⟩
theorem flm_ne {q p : Nat} (h : p ≠ q) (v : Int) : ∀ (n : Nat) (j : Int) (m : Mem), it (fun j (x : Mem) => stm x q j v) j n m p = m p
  | 0, _, _ => rfl
  | n + 1, j, m => by rw [it, flm_ne h v n]; exact stm_ne m j v h
theorem flm_MR {q : Nat} {v : Int} (hv : rg v) : ∀ (n : Nat) (j : Int) (m : Mem), MR m → MR (it (fun j (x : Mem) => stm x q j v) j n m)
  | 0, _, _, h => h
  | n + 1, j, m, h => by rw [it]; exact flm_MR hv n _ _ (h.st hv)
def WDS (m : Mem) : Prop := ∀ i, 0 ≤ i → i < m 5 1 → 0 ≤ m 6 (i * 3 + 0) ∧ m 6 (i * 3 + 0) < 16
theorem SW.sn {m x : Mem} (h : SW m x) (hs : SN m) : SN x := by unfold SN; rw [h.2.2.1]; exact hs
theorem SW.wds {m x : Mem} (h : SW m x) (hw : WDS m) : WDS x := by unfold WDS; rw [h.2.2.1, h.2.2.2]; exact hw
theorem ip0_SW (m : Mem) : SW m (ip0 m) := by
  have h : SW m (flm m 58 6 (-1)) := ⟨flm_ne (by decide) _ _ _ _, flm_ne (by decide) _ _ _ _, flm_ne (by decide) _ _ _ _, flm_ne (by decide) _ _ _ _⟩
  exact (h.st (by decide) _ _).st (by decide) _ _
theorem ip0_MR {m : Mem} (h : MR m) : MR (ip0 m) := ((flm_MR (by decide) _ _ _ h).st (by decide)).st (by decide)
def IP (m : Mem) (j : Int) (x : Int × Mem) : Prop := SW m x.2 ∧ MR x.2 ∧ (0 ≤ x.1 ∧ x.1 ≤ j) ∧ (0 ≤ x.2 57 6 ∧ x.2 57 6 ≤ j)
theorem iw_57 (x : Mem) (i s : Int) : iw x i s 57 = x 57 := by
  unfold iw iw0
  (repeat' split) <;> rfl
theorem im2_57 (j : Int) (x : Int × Mem) : im2 j x 57 6 = x.2 57 6 := by
  unfold im2
  rw [stm_ix _ _ _ (by decide), stm_ne _ _ _ (by decide), iw_57]
theorem ipr_I {m : Mem} {j : Int} {x : Int × Mem} (hj : 0 ≤ j ∧ j ≤ 16) (h : IP m j x) : IP m (j + 1) (ipr j x) := by
  obtain ⟨h1, h2, h3, h4⟩ := h
  have a1 : SW m (im2 j x) := ((iw_SW h1 _ _).st (by decide) _ _).st (by decide) _ _
  have a2 : MR (im2 j x) := ((iw_MR h2 _ _).st (by omega)).st (by omega)
  have a3 := im2_57 j x
  refine ⟨?_, ?_, ?_, ?_⟩
  · show SW m (if im2 j x 60 j = 0 then _ else _)
    split
    · exact a1
    · exact a1.st (by decide) _ _
  · show MR (if im2 j x 60 j = 0 then _ else _)
    split
    · exact a2
    · exact a2.st (by omega)
  · show 0 ≤ (if sw x.2 j = 3 then _ else _) ∧ (if sw x.2 j = 3 then _ else _) ≤ j + 1
    split <;> omega
  · show 0 ≤ (if im2 j x 60 j = 0 then im2 j x else stm (im2 j x) 57 6 (im2 j x 57 6 + 1)) 57 6 ∧ (if im2 j x 60 j = 0 then im2 j x else stm (im2 j x) 57 6 (im2 j x 57 6 + 1)) 57 6 ≤ j + 1
    split
    · omega
    · rw [stm_eq]; omega
theorem s_fill_58 {G : GG} {m : Mem} {Q : Option Value → Mem → Prop} {v : Int}  (hQ : Q none (flm m 58 6 v)) : CM G 0 mJ7_fill_53178 [.ref (G.2.2.2 58), .int (J (v))] m Q := by
  refine CM.of dkJ7_fill_53178 (Or.inl rfl) [some _, some _, none, none] rfl (Nat.le_of_ble_eq_true rfl) ?_
  refine x_iconst (i := 0) (pc' := 1) rfl rfl ?_
  refine x_istore_n (L' := [some _, some _, some _, none]) (i := 1) (pc' := 2) rfl rfl rfl rfl (by decide) rfl ?_
  refine x_aload_n (i := 2) (pc' := 3) rfl rfl rfl rfl ?_
  refine m_alen (i := 3) (pc' := 4) rfl rfl (sh58 G) ?_
  refine x_istore_n (L' := [some _, some _, some _, some _]) (i := 4) (pc' := 5) rfl rfl rfl rfl (by decide) rfl ?_
  skip
  refine up_ind0 (P := fun (j : Int) (x : Mem) => BW G 0 mJ7_fill_53178 Q 5 [some (.ref (G.2.2.2 58)), some (.int (J (v))), some (.int (J (j))), some (.int (J (((6 : Nat) : Int))))] [] x) (fun (j : Int) (x : Mem) => stm x 58 j v) (6) (0) (m) (by omega) (fun j x hj0 hj hk => ?_) ?_
  · skip
    refine x_iload_n (i := 5) (pc' := 6) rfl rfl rfl rfl ?_
    refine x_iload_n (i := 6) (pc' := 7) rfl rfl rfl rfl ?_
    refine x_icmpge (i := 7) (pc' := 10) (tgt := 20) rfl rfl (by decide) ⟨by omega, by omega⟩ ⟨by omega, by omega⟩ (fun c1 => by exfalso; omega) (fun c1 => ?_)
    refine x_aload_n (i := 8) (pc' := 11) rfl rfl rfl rfl ?_
    refine x_iload_n (i := 9) (pc' := 12) rfl rfl rfl rfl ?_
    refine x_iload_n (i := 10) (pc' := 13) rfl rfl rfl rfl ?_
    refine m_iast (i := 11) (pc' := 14) rfl rfl (sh58 G) (by decide) ⟨by omega, by omega⟩ ?_
    refine x_iinc (L' := [some _, some _, some _, some _]) (i := 12) (pc' := 17) rfl rfl rfl rfl (by decide) rfl ?_
    refine x_goto (i := 13) (pc' := 5) rfl (by decide) ?_
    (first | exact hk | (refine AW.le ?_ hk; simp [lvle]; done) | ((repeat' split at hk) <;> first | exact hk | (refine AW.le ?_ hk; simp [lvle]; done) | (exfalso; omega)))
  · skip
    refine x_iload_n (i := 5) (pc' := 6) rfl rfl rfl rfl ?_
    refine x_iload_n (i := 6) (pc' := 7) rfl rfl rfl rfl ?_
    refine x_icmpge (i := 7) (pc' := 10) (tgt := 20) rfl rfl (by decide) ⟨by omega, by omega⟩ ⟨by omega, by omega⟩ (fun c1 => ?_) (fun c1 => by exfalso; omega)
    exact m_return (i := 14) rfl rfl (hQ)
theorem s_fill_72 {G : GG} {m : Mem} {Q : Option Value → Mem → Prop} {v : Int}  (hQ : Q none (flm m 72 16 v)) : CM G 0 mJ7_fill_53178 [.ref (G.2.2.2 72), .int (J (v))] m Q := by
  refine CM.of dkJ7_fill_53178 (Or.inl rfl) [some _, some _, none, none] rfl (Nat.le_of_ble_eq_true rfl) ?_
  refine x_iconst (i := 0) (pc' := 1) rfl rfl ?_
  refine x_istore_n (L' := [some _, some _, some _, none]) (i := 1) (pc' := 2) rfl rfl rfl rfl (by decide) rfl ?_
  refine x_aload_n (i := 2) (pc' := 3) rfl rfl rfl rfl ?_
  refine m_alen (i := 3) (pc' := 4) rfl rfl (sh72 G) ?_
  refine x_istore_n (L' := [some _, some _, some _, some _]) (i := 4) (pc' := 5) rfl rfl rfl rfl (by decide) rfl ?_
  skip
  refine up_ind0 (P := fun (j : Int) (x : Mem) => BW G 0 mJ7_fill_53178 Q 5 [some (.ref (G.2.2.2 72)), some (.int (J (v))), some (.int (J (j))), some (.int (J (((16 : Nat) : Int))))] [] x) (fun (j : Int) (x : Mem) => stm x 72 j v) (16) (0) (m) (by omega) (fun j x hj0 hj hk => ?_) ?_
  · skip
    refine x_iload_n (i := 5) (pc' := 6) rfl rfl rfl rfl ?_
    refine x_iload_n (i := 6) (pc' := 7) rfl rfl rfl rfl ?_
    refine x_icmpge (i := 7) (pc' := 10) (tgt := 20) rfl rfl (by decide) ⟨by omega, by omega⟩ ⟨by omega, by omega⟩ (fun c1 => by exfalso; omega) (fun c1 => ?_)
    refine x_aload_n (i := 8) (pc' := 11) rfl rfl rfl rfl ?_
    refine x_iload_n (i := 9) (pc' := 12) rfl rfl rfl rfl ?_
    refine x_iload_n (i := 10) (pc' := 13) rfl rfl rfl rfl ?_
    refine m_iast (i := 11) (pc' := 14) rfl rfl (sh72 G) (by decide) ⟨by omega, by omega⟩ ?_
    refine x_iinc (L' := [some _, some _, some _, some _]) (i := 12) (pc' := 17) rfl rfl rfl rfl (by decide) rfl ?_
    refine x_goto (i := 13) (pc' := 5) rfl (by decide) ?_
    (first | exact hk | (refine AW.le ?_ hk; simp [lvle]; done) | ((repeat' split at hk) <;> first | exact hk | (refine AW.le ?_ hk; simp [lvle]; done) | (exfalso; omega)))
  · skip
    refine x_iload_n (i := 5) (pc' := 6) rfl rfl rfl rfl ?_
    refine x_iload_n (i := 6) (pc' := 7) rfl rfl rfl rfl ?_
    refine x_icmpge (i := 7) (pc' := 10) (tgt := 20) rfl rfl (by decide) ⟨by omega, by omega⟩ ⟨by omega, by omega⟩ (fun c1 => ?_) (fun c1 => by exfalso; omega)
    exact m_return (i := 14) rfl rfl (hQ)
theorem s_fill_74 {G : GG} {m : Mem} {Q : Option Value → Mem → Prop} {v : Int}  (hQ : Q none (flm m 74 16 v)) : CM G 0 mJ7_fill_53178 [.ref (G.2.2.2 74), .int (J (v))] m Q := by
  refine CM.of dkJ7_fill_53178 (Or.inl rfl) [some _, some _, none, none] rfl (Nat.le_of_ble_eq_true rfl) ?_
  refine x_iconst (i := 0) (pc' := 1) rfl rfl ?_
  refine x_istore_n (L' := [some _, some _, some _, none]) (i := 1) (pc' := 2) rfl rfl rfl rfl (by decide) rfl ?_
  refine x_aload_n (i := 2) (pc' := 3) rfl rfl rfl rfl ?_
  refine m_alen (i := 3) (pc' := 4) rfl rfl (sh74 G) ?_
  refine x_istore_n (L' := [some _, some _, some _, some _]) (i := 4) (pc' := 5) rfl rfl rfl rfl (by decide) rfl ?_
  skip
  refine up_ind0 (P := fun (j : Int) (x : Mem) => BW G 0 mJ7_fill_53178 Q 5 [some (.ref (G.2.2.2 74)), some (.int (J (v))), some (.int (J (j))), some (.int (J (((16 : Nat) : Int))))] [] x) (fun (j : Int) (x : Mem) => stm x 74 j v) (16) (0) (m) (by omega) (fun j x hj0 hj hk => ?_) ?_
  · skip
    refine x_iload_n (i := 5) (pc' := 6) rfl rfl rfl rfl ?_
    refine x_iload_n (i := 6) (pc' := 7) rfl rfl rfl rfl ?_
    refine x_icmpge (i := 7) (pc' := 10) (tgt := 20) rfl rfl (by decide) ⟨by omega, by omega⟩ ⟨by omega, by omega⟩ (fun c1 => by exfalso; omega) (fun c1 => ?_)
    refine x_aload_n (i := 8) (pc' := 11) rfl rfl rfl rfl ?_
    refine x_iload_n (i := 9) (pc' := 12) rfl rfl rfl rfl ?_
    refine x_iload_n (i := 10) (pc' := 13) rfl rfl rfl rfl ?_
    refine m_iast (i := 11) (pc' := 14) rfl rfl (sh74 G) (by decide) ⟨by omega, by omega⟩ ?_
    refine x_iinc (L' := [some _, some _, some _, some _]) (i := 12) (pc' := 17) rfl rfl rfl rfl (by decide) rfl ?_
    refine x_goto (i := 13) (pc' := 5) rfl (by decide) ?_
    (first | exact hk | (refine AW.le ?_ hk; simp [lvle]; done) | ((repeat' split at hk) <;> first | exact hk | (refine AW.le ?_ hk; simp [lvle]; done) | (exfalso; omega)))
  · skip
    refine x_iload_n (i := 5) (pc' := 6) rfl rfl rfl rfl ?_
    refine x_iload_n (i := 6) (pc' := 7) rfl rfl rfl rfl ?_
    refine x_icmpge (i := 7) (pc' := 10) (tgt := 20) rfl rfl (by decide) ⟨by omega, by omega⟩ ⟨by omega, by omega⟩ (fun c1 => ?_) (fun c1 => by exfalso; omega)
    exact m_return (i := 14) rfl rfl (hQ)
theorem s_fill_67 {G : GG} {m : Mem} {Q : Option Value → Mem → Prop} {v : Int}  (hQ : Q none (flm m 67 36 v)) : CM G 0 mJ7_fill_53178 [.ref (G.2.2.2 67), .int (J (v))] m Q := by
  refine CM.of dkJ7_fill_53178 (Or.inl rfl) [some _, some _, none, none] rfl (Nat.le_of_ble_eq_true rfl) ?_
  refine x_iconst (i := 0) (pc' := 1) rfl rfl ?_
  refine x_istore_n (L' := [some _, some _, some _, none]) (i := 1) (pc' := 2) rfl rfl rfl rfl (by decide) rfl ?_
  refine x_aload_n (i := 2) (pc' := 3) rfl rfl rfl rfl ?_
  refine m_alen (i := 3) (pc' := 4) rfl rfl (sh67 G) ?_
  refine x_istore_n (L' := [some _, some _, some _, some _]) (i := 4) (pc' := 5) rfl rfl rfl rfl (by decide) rfl ?_
  skip
  refine up_ind0 (P := fun (j : Int) (x : Mem) => BW G 0 mJ7_fill_53178 Q 5 [some (.ref (G.2.2.2 67)), some (.int (J (v))), some (.int (J (j))), some (.int (J (((36 : Nat) : Int))))] [] x) (fun (j : Int) (x : Mem) => stm x 67 j v) (36) (0) (m) (by omega) (fun j x hj0 hj hk => ?_) ?_
  · skip
    refine x_iload_n (i := 5) (pc' := 6) rfl rfl rfl rfl ?_
    refine x_iload_n (i := 6) (pc' := 7) rfl rfl rfl rfl ?_
    refine x_icmpge (i := 7) (pc' := 10) (tgt := 20) rfl rfl (by decide) ⟨by omega, by omega⟩ ⟨by omega, by omega⟩ (fun c1 => by exfalso; omega) (fun c1 => ?_)
    refine x_aload_n (i := 8) (pc' := 11) rfl rfl rfl rfl ?_
    refine x_iload_n (i := 9) (pc' := 12) rfl rfl rfl rfl ?_
    refine x_iload_n (i := 10) (pc' := 13) rfl rfl rfl rfl ?_
    refine m_iast (i := 11) (pc' := 14) rfl rfl (sh67 G) (by decide) ⟨by omega, by omega⟩ ?_
    refine x_iinc (L' := [some _, some _, some _, some _]) (i := 12) (pc' := 17) rfl rfl rfl rfl (by decide) rfl ?_
    refine x_goto (i := 13) (pc' := 5) rfl (by decide) ?_
    (first | exact hk | (refine AW.le ?_ hk; simp [lvle]; done) | ((repeat' split at hk) <;> first | exact hk | (refine AW.le ?_ hk; simp [lvle]; done) | (exfalso; omega)))
  · skip
    refine x_iload_n (i := 5) (pc' := 6) rfl rfl rfl rfl ?_
    refine x_iload_n (i := 6) (pc' := 7) rfl rfl rfl rfl ?_
    refine x_icmpge (i := 7) (pc' := 10) (tgt := 20) rfl rfl (by decide) ⟨by omega, by omega⟩ ⟨by omega, by omega⟩ (fun c1 => ?_) (fun c1 => by exfalso; omega)
    exact m_return (i := 14) rfl rfl (hQ)
theorem s_X4_thingAt {G : GG} {m : Mem} {Q : Option Value → Mem → Prop} {a : Int} (hM : MR m) (ha : rg a) (hQ : Q (some (.int (J (tha m a)))) m) : CM G 2 mX4_thingAt [.ref (G.2.2.2 57), .int (J (a))] m Q := by
  refine CM.of dkX4_thingAt (Or.inl rfl) [some _, some _] rfl (Nat.le_of_ble_eq_true rfl) ?_
  refine x_iload_n (i := 0) (pc' := 1) rfl rfl rfl rfl ?_
  refine m_callS (i := 1) (pc' := 4) (av := [_]) (rest := []) rfl rfl (by decide) lX4_82 rfl rfl (Nat.le_of_ble_eq_true rfl) (Nat.le_refl _) (Nat.le_refl _) (s_X11_isSpot (by omega) ?_)
  dsimp only [psh]
  refine x_ifeq (i := 2) (pc' := 7) (tgt := 16) rfl rfl (by decide) (by (repeat' split at *) <;> omega) (fun c1 => ?_) (fun c1 => ?_)
  · skip
    refine x_iconst (i := 8) (pc' := 17) rfl rfl ?_
    exact m_ireturn (i := 9) rfl rfl (by unfold tha at hQ; (repeat' split at hQ) <;> first | exact hQ | (exfalso; omega))
  · skip
    refine x_aload_n (i := 3) (pc' := 8) rfl rfl rfl rfl ?_
    refine m_getf (i := 4) (pc' := 11) rfl rfl flX4_9 (sh57 G) rfl rfl ?_
    refine x_iload_n (i := 5) (pc' := 12) rfl rfl rfl rfl ?_
    refine m_iald (i := 6) (pc' := 13) rfl rfl (sh58 G) (by decide) ⟨by (repeat' split at *) <;> omega, by (repeat' split at *) <;> omega⟩ ?_
    refine x_goto (i := 7) (pc' := 17) rfl (by decide) ?_
    exact m_ireturn (i := 9) rfl rfl (by unfold tha at hQ; (repeat' split at hQ) <;> first | exact hQ | (exfalso; omega))
theorem s_X4_setThing {G : GG} {m : Mem} {Q : Option Value → Mem → Prop} {a b : Int} (ha : rg a) (hQ : Q none (if 0 ≤ a ∧ a ≤ 5 then stm m 58 a b else m)) : CM G 2 mX4_setThing [.ref (G.2.2.2 57), .int (J (a)), .int (J (b))] m Q := by
  refine CM.of dkX4_setThing (Or.inl rfl) [some _, some _, some _] rfl (Nat.le_of_ble_eq_true rfl) ?_
  refine x_iload_n (i := 0) (pc' := 1) rfl rfl rfl rfl ?_
  refine m_callS (i := 1) (pc' := 4) (av := [_]) (rest := []) rfl rfl (by decide) lX4_82 rfl rfl (Nat.le_of_ble_eq_true rfl) (Nat.le_refl _) (Nat.le_refl _) (s_X11_isSpot (by omega) ?_)
  dsimp only [psh]
  refine x_ifeq (i := 2) (pc' := 7) (tgt := 14) rfl rfl (by decide) (by (repeat' split at *) <;> omega) (fun c1 => ?_) (fun c1 => ?_)
  · skip
    exact m_return (i := 8) rfl rfl (by (repeat' split at hQ) <;> first | exact hQ | (exfalso; omega))
  · skip
    refine x_aload_n (i := 3) (pc' := 8) rfl rfl rfl rfl ?_
    refine m_getf (i := 4) (pc' := 11) rfl rfl flX4_9 (sh57 G) rfl rfl ?_
    refine x_iload_n (i := 5) (pc' := 12) rfl rfl rfl rfl ?_
    refine x_iload_n (i := 6) (pc' := 13) rfl rfl rfl rfl ?_
    refine m_iast (i := 7) (pc' := 14) rfl rfl (sh58 G) (by decide) ⟨by (repeat' split at *) <;> omega, by (repeat' split at *) <;> omega⟩ ?_
    exact m_return (i := 8) rfl rfl (by (repeat' split at hQ) <;> first | exact hQ | (exfalso; omega))
theorem s_X4_interpretWord {G : GG} {m : Mem} {Q : Option Value → Mem → Prop} {a b : Int} (hM : MR m) (hs : SN m) (ha : 0 ≤ a ∧ a < m 5 1) (hb : rg b) (hQ : Q none (iw m a b)) : CM G 3 mX4_interpretWord [.ref (G.2.2.2 57), .ref (G.2.2.2 5), .int (J (a)), .int (J (b))] m Q := by
  refine CM.of dkX4_interpretWord (Or.inl rfl) [some _, some _, some _, some _, none, none] rfl (Nat.le_of_ble_eq_true rfl) ?_
  have hs0 := hs.1; have hs1 := hs.2
  have hM0 := iw0_MR hM a
  have hf := hM 6 (a * 3 + 1); have ht := hM 6 (a * 3 + 2)
  have hta := tha_rg hM (m 6 (a * 3 + 1)); have htb := tha_rg hM (m 6 (a * 3 + 2))
  have et0 : ∀ s, tha (iw0 m a) s = tha m s := fun _ => rfl
  have et1 : ∀ s, tha (stm (iw0 m a) 61 a (tha m (m 6 (a * 3 + 1)))) s = tha m s := fun _ => rfl
  refine x_aload_n (i := 0) (pc' := 1) rfl rfl rfl rfl ?_
  refine x_iload_n (i := 1) (pc' := 2) rfl rfl rfl rfl ?_
  refine m_callV (i := 2) (pc' := 5) (av := [_]) (rest := []) rfl rfl (by decide) lX4_66 (sh5 G) rfl rfl rfl rfl rfl (Nat.le_of_ble_eq_true rfl) (Nat.le_refl _) (Nat.le_refl _) (s_X8_from hs (by omega) ?_)
  dsimp only [psh]
  refine x_istore (L' := [some _, some _, some _, some _, some _, none]) (i := 3) (pc' := 7) rfl rfl rfl (by decide) rfl ?_
  refine x_aload_n (i := 4) (pc' := 8) rfl rfl rfl rfl ?_
  refine x_iload_n (i := 5) (pc' := 9) rfl rfl rfl rfl ?_
  refine m_callV (i := 6) (pc' := 12) (av := [_]) (rest := []) rfl rfl (by decide) lX4_69 (sh5 G) rfl rfl rfl rfl rfl (Nat.le_of_ble_eq_true rfl) (Nat.le_refl _) (Nat.le_refl _) (s_X8_to hs (by omega) ?_)
  dsimp only [psh]
  refine x_istore (L' := [some _, some _, some _, some _, some _, some _]) (i := 7) (pc' := 14) rfl rfl rfl (by decide) rfl ?_
  refine x_aload_n (i := 8) (pc' := 15) rfl rfl rfl rfl ?_
  refine m_getf (i := 9) (pc' := 18) rfl rfl flX4_18 (sh57 G) rfl rfl ?_
  refine x_iload_n (i := 10) (pc' := 19) rfl rfl rfl rfl ?_
  refine x_iconst (i := 11) (pc' := 20) rfl rfl ?_
  refine m_zast (i := 12) (pc' := 21) rfl rfl (sh60 G) (by decide) ⟨by omega, by omega⟩ (by omega) ?_
  refine x_aload_n (i := 13) (pc' := 22) rfl rfl rfl rfl ?_
  refine m_getf (i := 14) (pc' := 25) rfl rfl flX4_22 (sh57 G) rfl rfl ?_
  refine x_iload_n (i := 15) (pc' := 26) rfl rfl rfl rfl ?_
  refine x_iconst (i := 16) (pc' := 27) rfl rfl ?_
  refine m_iast (i := 17) (pc' := 28) rfl rfl (sh61 G) (by decide) ⟨by omega, by omega⟩ ?_
  refine x_aload_n (i := 18) (pc' := 29) rfl rfl rfl rfl ?_
  refine m_getf (i := 19) (pc' := 32) rfl rfl flX4_25 (sh57 G) rfl rfl ?_
  refine x_iload_n (i := 20) (pc' := 33) rfl rfl rfl rfl ?_
  refine x_iconst (i := 21) (pc' := 34) rfl rfl ?_
  refine m_iast (i := 22) (pc' := 35) rfl rfl (sh62 G) (by decide) ⟨by omega, by omega⟩ ?_
  refine x_iload_n (i := 23) (pc' := 36) rfl rfl rfl rfl ?_
  rcases (by omega : b = 1 ∨ b = 2 ∨ b = 3 ∨ (b < 1 ∨ 3 < b)) with c1 | c1 | c1 | c1
  · first | (exfalso; omega; done) | skip
    all_goals (
      refine x_tableIn (i := 24) (v := 1) (off := 28) (tgt := 64) rfl c1 ⟨by decide, by decide⟩ (by decide) (by decide) rfl (by decide) ?_
      refine x_aload_n (i := 25) (pc' := 65) rfl rfl rfl rfl ?_
      refine x_iload (i := 26) (pc' := 67) rfl rfl rfl ?_
      refine x_aload_n (i := 27) (pc' := 68) rfl rfl rfl rfl ?_
      refine x_iload_n (i := 28) (pc' := 69) rfl rfl rfl rfl ?_
      refine m_callV (i := 29) (pc' := 72) (av := [_]) (rest := [_, _]) rfl rfl (by decide) lX4_72 (sh5 G) rfl rfl rfl rfl rfl (Nat.le_of_ble_eq_true rfl) (Nat.le_refl _) (Nat.le_refl _) (s_X8_signIn (m := iw0 m a) hs ha ?_)
      dsimp only [psh]
      refine m_callV (i := 30) (pc' := 75) (av := [_, _]) (rest := []) rfl rfl (by decide) lX4_75 (sh57 G) rfl rfl rfl rfl rfl (Nat.le_of_ble_eq_true rfl) (Nat.le_refl _) (Nat.le_refl _) (s_X4_setThing (hM _ _) ?_)
      dsimp only [psh]
      refine x_goto (i := 31) (pc' := 184) rfl (by decide) ?_
      exact m_return (i := 93) rfl rfl (by unfold iw at hQ; (repeat' split at hQ) <;> (repeat' split) <;> first | exact hQ | (exfalso; omega))
      skip)
  · first | (exfalso; omega; done) | skip
    all_goals (
      refine x_tableIn (i := 24) (v := 2) (off := 42) (tgt := 78) rfl c1 ⟨by decide, by decide⟩ (by decide) (by decide) rfl (by decide) ?_
      refine x_aload_n (i := 32) (pc' := 79) rfl rfl rfl rfl ?_
      refine m_getf (i := 33) (pc' := 82) rfl rfl flX4_22 (sh57 G) rfl rfl ?_
      refine x_iload_n (i := 34) (pc' := 83) rfl rfl rfl rfl ?_
      refine x_aload_n (i := 35) (pc' := 84) rfl rfl rfl rfl ?_
      refine x_iload (i := 36) (pc' := 86) rfl rfl rfl ?_
      refine m_callV (i := 37) (pc' := 89) (av := [_]) (rest := [_, _]) rfl rfl (by decide) lX4_79 (sh57 G) rfl rfl rfl rfl rfl (Nat.le_of_ble_eq_true rfl) (Nat.le_refl _) (Nat.le_refl _) (s_X4_thingAt (m := iw0 m a) hM0 (hM _ _) ?_)
      dsimp only [psh]
      rw [et0]
      refine m_iast (i := 38) (pc' := 90) rfl rfl (sh61 G) (by decide) ⟨by omega, by omega⟩ ?_
      refine x_aload_n (i := 39) (pc' := 91) rfl rfl rfl rfl ?_
      refine m_getf (i := 40) (pc' := 94) rfl rfl flX4_18 (sh57 G) rfl rfl ?_
      refine x_iload_n (i := 41) (pc' := 95) rfl rfl rfl rfl ?_
      refine x_aload_n (i := 42) (pc' := 96) rfl rfl rfl rfl ?_
      refine m_getf (i := 43) (pc' := 99) rfl rfl flX4_22 (sh57 G) rfl rfl ?_
      refine x_iload_n (i := 44) (pc' := 100) rfl rfl rfl rfl ?_
      refine m_iald (i := 45) (pc' := 101) rfl rfl (sh61 G) (by decide) ⟨by omega, by omega⟩ ?_
      refine x_iconst (i := 46) (pc' := 102) rfl rfl ?_
      simp (disch := decide) only [stm_eq, stm_ne]
      refine x_icmpne (i := 47) (pc' := 105) (tgt := 109) rfl rfl (by decide) (by first | omega | exact hM _ _ | exact tha_rg hM _) (by first | omega | exact hM _ _ | exact tha_rg hM _) (fun c2 => ?_) (fun c2 => ?_)
      · skip
        refine x_iconst (i := 50) (pc' := 110) rfl rfl ?_
        refine m_zast (i := 51) (pc' := 111) rfl rfl (sh60 G) (by decide) ⟨by omega, by omega⟩ (by omega) ?_
        refine x_goto (i := 52) (pc' := 184) rfl (by decide) ?_
        exact m_return (i := 93) rfl rfl (by unfold iw at hQ; (repeat' split at hQ) <;> (repeat' split) <;> first | exact hQ | (exfalso; omega))
      · skip
        refine x_iconst (i := 48) (pc' := 106) rfl rfl ?_
        refine x_goto (i := 49) (pc' := 110) rfl (by decide) ?_
        refine m_zast (i := 51) (pc' := 111) rfl rfl (sh60 G) (by decide) ⟨by omega, by omega⟩ (by omega) ?_
        refine x_goto (i := 52) (pc' := 184) rfl (by decide) ?_
        exact m_return (i := 93) rfl rfl (by unfold iw at hQ; (repeat' split at hQ) <;> (repeat' split) <;> first | exact hQ | (exfalso; omega))
      skip)
  · first | (exfalso; omega; done) | skip
    all_goals (
      refine x_tableIn (i := 24) (v := 3) (off := 78) (tgt := 114) rfl c1 ⟨by decide, by decide⟩ (by decide) (by decide) rfl (by decide) ?_
      refine x_aload_n (i := 53) (pc' := 115) rfl rfl rfl rfl ?_
      refine m_getf (i := 54) (pc' := 118) rfl rfl flX4_22 (sh57 G) rfl rfl ?_
      refine x_iload_n (i := 55) (pc' := 119) rfl rfl rfl rfl ?_
      refine x_aload_n (i := 56) (pc' := 120) rfl rfl rfl rfl ?_
      refine x_iload (i := 57) (pc' := 122) rfl rfl rfl ?_
      refine m_callV (i := 58) (pc' := 125) (av := [_]) (rest := [_, _]) rfl rfl (by decide) lX4_79 (sh57 G) rfl rfl rfl rfl rfl (Nat.le_of_ble_eq_true rfl) (Nat.le_refl _) (Nat.le_refl _) (s_X4_thingAt (m := iw0 m a) hM0 (hM _ _) ?_)
      dsimp only [psh]
      rw [et0]
      refine m_iast (i := 59) (pc' := 126) rfl rfl (sh61 G) (by decide) ⟨by omega, by omega⟩ ?_
      refine x_aload_n (i := 60) (pc' := 127) rfl rfl rfl rfl ?_
      refine m_getf (i := 61) (pc' := 130) rfl rfl flX4_25 (sh57 G) rfl rfl ?_
      refine x_iload_n (i := 62) (pc' := 131) rfl rfl rfl rfl ?_
      refine x_aload_n (i := 63) (pc' := 132) rfl rfl rfl rfl ?_
      refine x_iload (i := 64) (pc' := 134) rfl rfl rfl ?_
      refine m_callV (i := 65) (pc' := 137) (av := [_]) (rest := [_, _]) rfl rfl (by decide) lX4_79 (sh57 G) rfl rfl rfl rfl rfl (Nat.le_of_ble_eq_true rfl) (Nat.le_refl _) (Nat.le_refl _) (s_X4_thingAt (hM0.st hta) (hM _ _) ?_)
      dsimp only [psh]
      rw [et1]
      refine m_iast (i := 66) (pc' := 138) rfl rfl (sh62 G) (by decide) ⟨by omega, by omega⟩ ?_
      refine x_aload_n (i := 67) (pc' := 139) rfl rfl rfl rfl ?_
      refine m_getf (i := 68) (pc' := 142) rfl rfl flX4_18 (sh57 G) rfl rfl ?_
      refine x_iload_n (i := 69) (pc' := 143) rfl rfl rfl rfl ?_
      refine x_iload (i := 70) (pc' := 145) rfl rfl rfl ?_
      refine x_iconst (i := 71) (pc' := 146) rfl rfl ?_
      refine x_icmpeq (i := 72) (pc' := 149) (tgt := 159) rfl rfl (by decide) (by first | omega | exact hM _ _ | exact tha_rg hM _) (by first | omega | exact hM _ _ | exact tha_rg hM _) (fun c3 => ?_) (fun c3 => ?_)
      · skip
        refine x_iload (i := 79) (pc' := 161) rfl rfl rfl ?_
        refine x_iconst (i := 80) (pc' := 162) rfl rfl ?_
        refine x_icmpeq (i := 81) (pc' := 165) (tgt := 179) rfl rfl (by decide) (by first | omega | exact hM _ _ | exact tha_rg hM _) (by first | omega | exact hM _ _ | exact tha_rg hM _) (fun c4 => ?_) (fun c4 => ?_)
        · skip
          refine x_iconst (i := 90) (pc' := 180) rfl rfl ?_
          refine m_zast (i := 91) (pc' := 181) rfl rfl (sh60 G) (by decide) ⟨by omega, by omega⟩ (by omega) ?_
          refine x_goto (i := 92) (pc' := 184) rfl (by decide) ?_
          exact m_return (i := 93) rfl rfl (by unfold iw at hQ; (repeat' split at hQ) <;> (repeat' split) <;> first | exact hQ | (exfalso; omega))
        · skip
          refine x_aload_n (i := 82) (pc' := 166) rfl rfl rfl rfl ?_
          refine m_getf (i := 83) (pc' := 169) rfl rfl flX4_25 (sh57 G) rfl rfl ?_
          refine x_iload_n (i := 84) (pc' := 170) rfl rfl rfl rfl ?_
          refine m_iald (i := 85) (pc' := 171) rfl rfl (sh62 G) (by decide) ⟨by omega, by omega⟩ ?_
          refine x_iconst (i := 86) (pc' := 172) rfl rfl ?_
          simp (disch := decide) only [stm_eq, stm_ne]
          refine x_icmpne (i := 87) (pc' := 175) (tgt := 179) rfl rfl (by decide) (by first | omega | exact hM _ _ | exact tha_rg hM _) (by first | omega | exact hM _ _ | exact tha_rg hM _) (fun c5 => ?_) (fun c5 => ?_)
          · skip
            refine x_iconst (i := 90) (pc' := 180) rfl rfl ?_
            refine m_zast (i := 91) (pc' := 181) rfl rfl (sh60 G) (by decide) ⟨by omega, by omega⟩ (by omega) ?_
            refine x_goto (i := 92) (pc' := 184) rfl (by decide) ?_
            exact m_return (i := 93) rfl rfl (by unfold iw at hQ; (repeat' split at hQ) <;> (repeat' split) <;> first | exact hQ | (exfalso; omega))
          · skip
            refine x_iconst (i := 88) (pc' := 176) rfl rfl ?_
            refine x_goto (i := 89) (pc' := 180) rfl (by decide) ?_
            refine m_zast (i := 91) (pc' := 181) rfl rfl (sh60 G) (by decide) ⟨by omega, by omega⟩ (by omega) ?_
            refine x_goto (i := 92) (pc' := 184) rfl (by decide) ?_
            exact m_return (i := 93) rfl rfl (by unfold iw at hQ; (repeat' split at hQ) <;> (repeat' split) <;> first | exact hQ | (exfalso; omega))
      · skip
        refine x_aload_n (i := 73) (pc' := 150) rfl rfl rfl rfl ?_
        refine m_getf (i := 74) (pc' := 153) rfl rfl flX4_22 (sh57 G) rfl rfl ?_
        refine x_iload_n (i := 75) (pc' := 154) rfl rfl rfl rfl ?_
        refine m_iald (i := 76) (pc' := 155) rfl rfl (sh61 G) (by decide) ⟨by omega, by omega⟩ ?_
        refine x_iconst (i := 77) (pc' := 156) rfl rfl ?_
        simp (disch := decide) only [stm_eq, stm_ne]
        refine x_icmpeq (i := 78) (pc' := 159) (tgt := 175) rfl rfl (by decide) (by first | omega | exact hM _ _ | exact tha_rg hM _) (by first | omega | exact hM _ _ | exact tha_rg hM _) (fun c6 => ?_) (fun c6 => ?_)
        · skip
          refine x_iconst (i := 88) (pc' := 176) rfl rfl ?_
          refine x_goto (i := 89) (pc' := 180) rfl (by decide) ?_
          refine m_zast (i := 91) (pc' := 181) rfl rfl (sh60 G) (by decide) ⟨by omega, by omega⟩ (by omega) ?_
          refine x_goto (i := 92) (pc' := 184) rfl (by decide) ?_
          exact m_return (i := 93) rfl rfl (by unfold iw at hQ; (repeat' split at hQ) <;> (repeat' split) <;> first | exact hQ | (exfalso; omega))
        · skip
          refine x_iload (i := 79) (pc' := 161) rfl rfl rfl ?_
          refine x_iconst (i := 80) (pc' := 162) rfl rfl ?_
          refine x_icmpeq (i := 81) (pc' := 165) (tgt := 179) rfl rfl (by decide) (by first | omega | exact hM _ _ | exact tha_rg hM _) (by first | omega | exact hM _ _ | exact tha_rg hM _) (fun c7 => ?_) (fun c7 => ?_)
          · skip
            refine x_iconst (i := 90) (pc' := 180) rfl rfl ?_
            refine m_zast (i := 91) (pc' := 181) rfl rfl (sh60 G) (by decide) ⟨by omega, by omega⟩ (by omega) ?_
            refine x_goto (i := 92) (pc' := 184) rfl (by decide) ?_
            exact m_return (i := 93) rfl rfl (by unfold iw at hQ; (repeat' split at hQ) <;> (repeat' split) <;> first | exact hQ | (exfalso; omega))
          · skip
            refine x_aload_n (i := 82) (pc' := 166) rfl rfl rfl rfl ?_
            refine m_getf (i := 83) (pc' := 169) rfl rfl flX4_25 (sh57 G) rfl rfl ?_
            refine x_iload_n (i := 84) (pc' := 170) rfl rfl rfl rfl ?_
            refine m_iald (i := 85) (pc' := 171) rfl rfl (sh62 G) (by decide) ⟨by omega, by omega⟩ ?_
            refine x_iconst (i := 86) (pc' := 172) rfl rfl ?_
            simp (disch := decide) only [stm_eq, stm_ne]
            refine x_icmpne (i := 87) (pc' := 175) (tgt := 179) rfl rfl (by decide) (by first | omega | exact hM _ _ | exact tha_rg hM _) (by first | omega | exact hM _ _ | exact tha_rg hM _) (fun c8 => ?_) (fun c8 => ?_)
            · skip
              refine x_iconst (i := 90) (pc' := 180) rfl rfl ?_
              refine m_zast (i := 91) (pc' := 181) rfl rfl (sh60 G) (by decide) ⟨by omega, by omega⟩ (by omega) ?_
              refine x_goto (i := 92) (pc' := 184) rfl (by decide) ?_
              exact m_return (i := 93) rfl rfl (by unfold iw at hQ; (repeat' split at hQ) <;> (repeat' split) <;> first | exact hQ | (exfalso; omega))
            · skip
              refine x_iconst (i := 88) (pc' := 176) rfl rfl ?_
              refine x_goto (i := 89) (pc' := 180) rfl (by decide) ?_
              refine m_zast (i := 91) (pc' := 181) rfl rfl (sh60 G) (by decide) ⟨by omega, by omega⟩ (by omega) ?_
              refine x_goto (i := 92) (pc' := 184) rfl (by decide) ?_
              exact m_return (i := 93) rfl rfl (by unfold iw at hQ; (repeat' split at hQ) <;> (repeat' split) <;> first | exact hQ | (exfalso; omega))
      skip)
  · first | (exfalso; omega; done) | skip
    all_goals (
      refine x_tableOut (i := 24) (tgt := 184) rfl (by first | omega | exact hM _ _ | exact tha_rg hM _) c1 (by decide) ?_
      exact m_return (i := 93) rfl rfl (by unfold iw at hQ; (repeat' split at hQ) <;> (repeat' split) <;> first | exact hQ | (exfalso; omega))
      skip)
theorem s_X4_interpret {G : GG} {m : Mem} {Q : Option Value → Mem → Prop} {b : Int} (hM : MR m) (hs : SN m) (hwd : WDS m) (hb : 0 ≤ b ∧ b ≤ 16) (hQ : Q none (ipm m b)) : CM G 4 mX4_interpret [.ref (G.2.2.2 57), .ref (G.2.2.2 1), .int (J (b))] m Q := by
  refine CM.of dkX4_interpret (Or.inl rfl) [some _, some _, some _, none, none, none, none] rfl (Nat.le_of_ble_eq_true rfl) ?_
  have hs0 := hs.1; have hs1 := hs.2
  refine x_aload_n (i := 0) (pc' := 1) rfl rfl rfl rfl ?_
  refine m_getf (i := 1) (pc' := 4) rfl rfl flX4_9 (sh57 G) rfl rfl ?_
  refine x_iconst (i := 2) (pc' := 5) rfl rfl ?_
  refine m_callS (i := 3) (pc' := 8) (av := [_, _]) (rest := []) rfl rfl (by decide) lX4_35 rfl rfl (Nat.le_of_ble_eq_true rfl) (Nat.le_refl _) (Nat.le_refl _) (s_fill_58 ?_)
  dsimp only [psh]
  refine x_aload_n (i := 4) (pc' := 9) rfl rfl rfl rfl ?_
  refine x_iconst (i := 5) (pc' := 10) rfl rfl ?_
  refine m_putf (kz := 6) (i := 6) (pc' := 13) rfl rfl flX4_32 (sh57 G) (fun _ => rfl) rfl (Nat.le_of_ble_eq_true rfl) rfl rfl ?_
  refine x_aload_n (i := 7) (pc' := 14) rfl rfl rfl rfl ?_
  refine x_iconst (i := 8) (pc' := 15) rfl rfl ?_
  refine m_putf (kz := 5) (i := 9) (pc' := 18) rfl rfl flX4_28 (sh57 G) (fun _ => rfl) rfl (Nat.le_of_ble_eq_true rfl) rfl rfl ?_
  refine x_iconst (i := 10) (pc' := 19) rfl rfl ?_
  refine x_istore_n (L' := [some _, some _, some _, some _, none, none, none]) (i := 11) (pc' := 20) rfl rfl rfl rfl (by decide) rfl ?_
  refine x_iload_n (i := 12) (pc' := 21) rfl rfl rfl rfl ?_
  refine x_aload_n (i := 13) (pc' := 22) rfl rfl rfl rfl ?_
  refine m_getf (i := 14) (pc' := 25) rfl rfl flX4_41 (sh1 G) rfl rfl ?_
  refine m_getf (i := 15) (pc' := 28) rfl rfl flX4_47 (sh5 G) rfl rfl ?_
  have e5 : stm (stm (flm m 58 6 (-1)) 57 6 0) 57 5 0 5 1 = m 5 1 := congrFun (ip0_SW m).2.2.1 1
  rw [e5]
  refine m_callS (i := 16) (pc' := 31) (av := [_, _]) (rest := []) rfl rfl (by decide) lX4_52 rfl rfl (Nat.le_of_ble_eq_true rfl) (Nat.le_refl _) (Nat.le_refl _) (s_J9_min_7cf53 (by omega) (by omega) ?_)
  dsimp only [psh]
  refine x_istore (L' := [some _, some _, some _, some _, some _, none, none]) (i := 17) (pc' := 33) rfl rfl rfl (by decide) rfl ?_
  refine x_iconst (i := 18) (pc' := 34) rfl rfl ?_
  refine x_istore (L' := [some _, some _, some _, some _, some _, some _, none]) (i := 19) (pc' := 36) rfl rfl rfl (by decide) rfl ?_
  skip
  have hmn : 0 ≤ mn b (m 5 1) ∧ mn b (m 5 1) ≤ m 5 1 := (by unfold mn; split <;> omega)
  refine up_ind1 (P := fun (j : Int) (x : Int × Mem) => BW G 4 mX4_interpret Q 36 [some (.ref (G.2.2.2 57)), some (.ref (G.2.2.2 1)), some (.int (J (b))), some (.int (J (x.1))), some (.int (J (mn b (m 5 1)))), some (.int (J (j))), none] [] x.2) (fun (j : Int) (x : Int × Mem) => ipr j x) (fun (j : Int) (x : Int × Mem) => IP m j x) (mn b (m 5 1)) (0) ((0, ip0 m)) (by omega) (⟨ip0_SW m, ip0_MR hM, by (show (0 : Int) ≤ 0 ∧ (0 : Int) ≤ 0; decide), by (have e6 : ip0 m 57 6 = 0 := (by unfold ip0; rw [stm_ix _ _ _ (by decide), stm_eq]); show 0 ≤ ip0 m 57 6 ∧ ip0 m 57 6 ≤ 0; omega)⟩) (fun j x hj0 hj hi => ipr_I (by omega) hi) (fun j x hj0 hj hi hk => ?_) (fun hi => ?_)
  · obtain ⟨g1, g2, g3, g4⟩ := hi
    have k1 := g1.sn hs; have k2 := g1.wds hwd; have k3 := congrFun g1.2.2.1 1
    have k4 : MR (im2 j x) := ((iw_MR g2 _ _).st (by omega)).st (by omega)
    have k5 := im2_57 j x
    have k6 : rg (sw x.2 j) := g2 _ _
    have k7 : stm (stm (iw x.2 j (sw x.2 j)) 59 j x.1) 57 5 (x.1 + 1) = im2 j x := rfl
    refine x_iload (i := 20) (pc' := 38) rfl rfl rfl ?_
    refine x_iload (i := 21) (pc' := 40) rfl rfl rfl ?_
    refine x_icmpge (i := 22) (pc' := 43) (tgt := 113) rfl rfl (by decide) (by first | omega | exact g2 _ _ | exact k4 _ _) (by first | omega | exact g2 _ _ | exact k4 _ _) (fun c1 => by exfalso; omega) (fun c1 => ?_)
    refine x_aload_n (i := 23) (pc' := 44) rfl rfl rfl rfl ?_
    refine x_iload (i := 24) (pc' := 46) rfl rfl rfl ?_
    refine m_callV (i := 25) (pc' := 49) (av := [_]) (rest := []) rfl rfl (by decide) lX4_58 (sh1 G) rfl rfl rfl rfl rfl (Nat.le_of_ble_eq_true rfl) (Nat.le_refl _) (Nat.le_refl _) (s_X9_sortOfWord k1 k2 (by omega) ?_)
    dsimp only [psh]
    refine x_istore (L' := [some _, some _, some _, some _, some _, some _, some _]) (i := 26) (pc' := 51) rfl rfl rfl (by decide) rfl ?_
    refine x_aload_n (i := 27) (pc' := 52) rfl rfl rfl rfl ?_
    refine x_aload_n (i := 28) (pc' := 53) rfl rfl rfl rfl ?_
    refine m_getf (i := 29) (pc' := 56) rfl rfl flX4_41 (sh1 G) rfl rfl ?_
    refine x_iload (i := 30) (pc' := 58) rfl rfl rfl ?_
    refine x_iload (i := 31) (pc' := 60) rfl rfl rfl ?_
    refine m_callV (i := 32) (pc' := 63) (av := [_, _, _]) (rest := []) rfl rfl (by decide) lX4_62 (sh57 G) rfl rfl rfl rfl rfl (Nat.le_of_ble_eq_true rfl) (Nat.le_refl _) (Nat.le_refl _) (s_X4_interpretWord g2 k1 (by omega) (g2 _ _) ?_)
    dsimp only [psh]
    refine x_aload_n (i := 33) (pc' := 64) rfl rfl rfl rfl ?_
    refine m_getf (i := 34) (pc' := 67) rfl rfl flX4_15 (sh57 G) rfl rfl ?_
    refine x_iload (i := 35) (pc' := 69) rfl rfl rfl ?_
    refine x_iload_n (i := 36) (pc' := 70) rfl rfl rfl rfl ?_
    refine m_iast (i := 37) (pc' := 71) rfl rfl (sh59 G) (by decide) ⟨by omega, by omega⟩ ?_
    refine x_aload_n (i := 38) (pc' := 72) rfl rfl rfl rfl ?_
    refine x_iload_n (i := 39) (pc' := 73) rfl rfl rfl rfl ?_
    refine x_iconst (i := 40) (pc' := 74) rfl rfl ?_
    refine x_iadd (i := 41) (pc' := 75) rfl rfl ?_
    refine m_putf (kz := 5) (i := 42) (pc' := 78) rfl rfl flX4_28 (sh57 G) (fun _ => rfl) rfl (Nat.le_of_ble_eq_true rfl) rfl rfl ?_
    rw [k7]
    refine x_iload (i := 43) (pc' := 80) rfl rfl rfl ?_
    refine x_iconst (i := 44) (pc' := 81) rfl rfl ?_
    refine x_icmpne (i := 45) (pc' := 84) (tgt := 87) rfl rfl (by decide) (by first | omega | exact g2 _ _ | exact k4 _ _) (by first | omega | exact g2 _ _ | exact k4 _ _) (fun c2 => ?_) (fun c2 => ?_)
    · skip
      refine x_aload_n (i := 47) (pc' := 88) rfl rfl rfl rfl ?_
      refine m_getf (i := 48) (pc' := 91) rfl rfl flX4_18 (sh57 G) rfl rfl ?_
      refine x_iload (i := 49) (pc' := 93) rfl rfl rfl ?_
      refine m_zald (i := 50) (pc' := 94) rfl rfl (sh60 G) (by decide) ⟨by omega, by omega⟩ ?_
      refine x_ifeq (i := 51) (pc' := 97) (tgt := 107) rfl rfl (by decide) (by first | omega | exact g2 _ _ | exact k4 _ _) (fun c3 => ?_) (fun c3 => ?_)
      · skip
        refine x_iinc (L' := [some _, some _, some _, some _, some _, some _, some _]) (i := 58) (pc' := 110) rfl rfl rfl rfl (by decide) rfl ?_
        refine x_goto (i := 59) (pc' := 36) rfl (by decide) ?_
        (unfold ipr at hk; first | exact hk | (refine AW.le ?_ hk; simp [lvle]; done) | ((repeat' split at hk) <;> first | exact hk | (refine AW.le ?_ hk; simp [lvle]; done) | (exfalso; omega)))
      · skip
        refine x_aload_n (i := 52) (pc' := 98) rfl rfl rfl rfl ?_
        refine x_dup (i := 53) (pc' := 99) rfl rfl rfl ?_
        refine m_getf (i := 54) (pc' := 102) rfl rfl flX4_32 (sh57 G) rfl rfl ?_
        refine x_iconst (i := 55) (pc' := 103) rfl rfl ?_
        refine x_iadd (i := 56) (pc' := 104) rfl rfl ?_
        refine m_putf (kz := 6) (i := 57) (pc' := 107) rfl rfl flX4_32 (sh57 G) (fun _ => rfl) rfl (Nat.le_of_ble_eq_true rfl) rfl rfl ?_
        refine x_iinc (L' := [some _, some _, some _, some _, some _, some _, some _]) (i := 58) (pc' := 110) rfl rfl rfl rfl (by decide) rfl ?_
        refine x_goto (i := 59) (pc' := 36) rfl (by decide) ?_
        (unfold ipr at hk; first | exact hk | (refine AW.le ?_ hk; simp [lvle]; done) | ((repeat' split at hk) <;> first | exact hk | (refine AW.le ?_ hk; simp [lvle]; done) | (exfalso; omega)))
    · skip
      refine x_iinc (L' := [some _, some _, some _, some _, some _, some _, some _]) (i := 46) (pc' := 87) rfl rfl rfl rfl (by decide) rfl ?_
      refine x_aload_n (i := 47) (pc' := 88) rfl rfl rfl rfl ?_
      refine m_getf (i := 48) (pc' := 91) rfl rfl flX4_18 (sh57 G) rfl rfl ?_
      refine x_iload (i := 49) (pc' := 93) rfl rfl rfl ?_
      refine m_zald (i := 50) (pc' := 94) rfl rfl (sh60 G) (by decide) ⟨by omega, by omega⟩ ?_
      refine x_ifeq (i := 51) (pc' := 97) (tgt := 107) rfl rfl (by decide) (by first | omega | exact g2 _ _ | exact k4 _ _) (fun c4 => ?_) (fun c4 => ?_)
      · skip
        refine x_iinc (L' := [some _, some _, some _, some _, some _, some _, some _]) (i := 58) (pc' := 110) rfl rfl rfl rfl (by decide) rfl ?_
        refine x_goto (i := 59) (pc' := 36) rfl (by decide) ?_
        (unfold ipr at hk; first | exact hk | (refine AW.le ?_ hk; simp [lvle]; done) | ((repeat' split at hk) <;> first | exact hk | (refine AW.le ?_ hk; simp [lvle]; done) | (exfalso; omega)))
      · skip
        refine x_aload_n (i := 52) (pc' := 98) rfl rfl rfl rfl ?_
        refine x_dup (i := 53) (pc' := 99) rfl rfl rfl ?_
        refine m_getf (i := 54) (pc' := 102) rfl rfl flX4_32 (sh57 G) rfl rfl ?_
        refine x_iconst (i := 55) (pc' := 103) rfl rfl ?_
        refine x_iadd (i := 56) (pc' := 104) rfl rfl ?_
        refine m_putf (kz := 6) (i := 57) (pc' := 107) rfl rfl flX4_32 (sh57 G) (fun _ => rfl) rfl (Nat.le_of_ble_eq_true rfl) rfl rfl ?_
        refine x_iinc (L' := [some _, some _, some _, some _, some _, some _, some _]) (i := 58) (pc' := 110) rfl rfl rfl rfl (by decide) rfl ?_
        refine x_goto (i := 59) (pc' := 36) rfl (by decide) ?_
        (unfold ipr at hk; first | exact hk | (refine AW.le ?_ hk; simp [lvle]; done) | ((repeat' split at hk) <;> first | exact hk | (refine AW.le ?_ hk; simp [lvle]; done) | (exfalso; omega)))
  · skip
    refine x_iload (i := 20) (pc' := 38) rfl rfl rfl ?_
    refine x_iload (i := 21) (pc' := 40) rfl rfl rfl ?_
    refine x_icmpge (i := 22) (pc' := 43) (tgt := 113) rfl rfl (by decide) ⟨by omega, by omega⟩ ⟨by omega, by omega⟩ (fun c1 => ?_) (fun c1 => by exfalso; omega)
    exact m_return (i := 60) rfl rfl (by rw [Int.sub_zero]; exact hQ)
end
section
theorem lyl_MR {v pr : Int} (hp : rg pr) : ∀ (n : Nat) (j : Int) (m : Mem), MR m → MR (it (fun s (x : Mem) => if x 7 s = v then stm x 7 s pr else x) j n m)
  | 0, _, _, h => h
  | n + 1, j, m, h => by
    rw [it]
    refine lyl_MR hp n _ _ ?_
    split
    · exact h.st hp
    · exact h
def CKI (m : Mem) (j : Int) (x : (Int × Int) × Mem) : Prop := SW m x.2 ∧ MR x.2 ∧ (0 ≤ x.1.1 ∧ x.1.1 ≤ j) ∧ (0 ≤ x.1.2 ∧ x.1.2 ≤ j) ∧ (0 ≤ x.2 63 0 ∧ x.2 63 0 ≤ j * 16) ∧ (0 ≤ x.2 63 1 ∧ x.2 63 1 ≤ j * 16)
theorem ck_I {m : Mem} {j : Int} {x : (Int × Int) × Mem} (hj : 0 ≤ j ∧ j < 16) (h : CKI m j x) : CKI m (j + 1) (ck j x) := by
  obtain ⟨h1, h2, h3, h4, h5, h6⟩ := h
  have hm : 0 ≤ mn (x.1.2 + 1) x.1.1 ∧ mn (x.1.2 + 1) x.1.1 ≤ x.1.1 := by unfold mn; split <;> omega
  unfold ck
  split
  · refine ⟨h1.st (by decide) _ _, h2.st (by omega), by show (0 : Int) ≤ 0 ∧ (0 : Int) ≤ j + 1; omega, by show (0 : Int) ≤ 0 ∧ (0 : Int) ≤ j + 1; omega, ?_, ?_⟩
    · show 0 ≤ stm x.2 63 1 (x.2 63 1 + x.1.2) 63 0 ∧ stm x.2 63 1 (x.2 63 1 + x.1.2) 63 0 ≤ (j + 1) * 16
      rw [stm_ix _ _ _ (by decide)]; omega
    · show 0 ≤ stm x.2 63 1 (x.2 63 1 + x.1.2) 63 1 ∧ stm x.2 63 1 (x.2 63 1 + x.1.2) 63 1 ≤ (j + 1) * 16
      rw [stm_eq]; omega
  · split
    · refine ⟨h1.st (by decide) _ _, h2.st (by omega), by show 0 ≤ x.1.1 ∧ x.1.1 ≤ j + 1; omega, by show 0 ≤ mn (x.1.2 + 1) x.1.1 ∧ mn (x.1.2 + 1) x.1.1 ≤ j + 1; omega, ?_, ?_⟩
      · show 0 ≤ stm x.2 63 0 (x.2 63 0 + x.1.1) 63 0 ∧ stm x.2 63 0 (x.2 63 0 + x.1.1) 63 0 ≤ (j + 1) * 16
        rw [stm_eq]; omega
      · show 0 ≤ stm x.2 63 0 (x.2 63 0 + x.1.1) 63 1 ∧ stm x.2 63 0 (x.2 63 0 + x.1.1) 63 1 ≤ (j + 1) * 16
        rw [stm_ix _ _ _ (by decide)]; omega
    · exact ⟨h1, h2, by show 0 ≤ x.1.1 + 1 ∧ x.1.1 + 1 ≤ j + 1; omega, by show 0 ≤ x.1.2 ∧ x.1.2 ≤ j + 1; omega, by show 0 ≤ x.2 63 0 ∧ x.2 63 0 ≤ (j + 1) * 16; omega, by show 0 ≤ x.2 63 1 ∧ x.2 63 1 ≤ (j + 1) * 16; omega⟩
def PWI (m : Mem) (j : Int) (x : Mem) : Prop := SW m x ∧ MR x ∧ (0 ≤ x 64 1 ∧ x 64 1 ≤ 2 * j) ∧ (∀ n, 0 ≤ n → n < x 64 1 → 0 ≤ x 65 n ∧ x 65 n ≤ 5)
theorem pa_sp {m : Mem} {s : Int} (h : 0 ≤ m 64 1) (hp : ∀ n, 0 ≤ n → n < m 64 1 → 0 ≤ m 65 n ∧ m 65 n ≤ 5) : ∀ n, 0 ≤ n → n < pa m s 64 1 → 0 ≤ pa m s 65 n ∧ pa m s 65 n ≤ 5 := by
  unfold pa
  split
  · next hc =>
    intro n h0 h1
    rw [stm_eq] at h1
    rw [stm_ne _ _ _ (by decide)]
    by_cases hn : n = m 64 1
    · rw [hn, stm_eq]; omega
    · rw [stm_ix _ _ _ hn]; exact hp n h0 (by omega)
  · exact hp
theorem pw_I {m : Mem} {j : Int} {x : Mem} (hj : 0 ≤ j ∧ j < 16) (h : PWI m j x) : PWI m (j + 1) (pw j x) := by
  obtain ⟨h1, h2, h3, h4⟩ := h
  have a1 := pa_n (m := x) (s := x 6 (j * 3 + 1)) (by omega)
  have a2 := pa_MR h2 (h2 6 (j * 3 + 1)) (by omega)
  have a3 := pa_sp (s := x 6 (j * 3 + 1)) h3.1 h4
  have b1 := pa_n (m := pa x (x 6 (j * 3 + 1))) (s := (pa x (x 6 (j * 3 + 1))) 6 (j * 3 + 2)) (by omega)
  have b2 := pa_MR a2 (a2 6 (j * 3 + 2)) (by omega)
  have b3 := pa_sp (s := (pa x (x 6 (j * 3 + 1))) 6 (j * 3 + 2)) a1.1.1 a3
  exact ⟨(h1.pa _).pa _, b2, by unfold pw; omega, b3⟩
theorem s_X9_layOne {G : GG} {m : Mem} {Q : Option Value → Mem → Prop} {a v : Int} (hM : MR m) (h1 : rg a) (h2 : rg v) (hQ : Q (some (.int (J (if (0 ≤ a ∧ a ≤ 5) ∧ (0 ≤ v ∧ v ≤ 5) then m 7 a else -2)))) (if (0 ≤ a ∧ a ≤ 5) ∧ (0 ≤ v ∧ v ≤ 5) then lyo m a v else m)) : CM G 2 mX9_layOne [.ref (G.2.2.2 1), .int (J (a)), .int (J (v))] m Q := by
  refine CM.of dkX9_layOne (Or.inl rfl) [some _, some _, some _, none, none] rfl (Nat.le_of_ble_eq_true rfl) ?_
  refine x_iload_n (i := 0) (pc' := 1) rfl rfl rfl rfl ?_
  refine m_callS (i := 1) (pc' := 4) (av := [_]) (rest := []) rfl rfl (by decide) lX9_72 rfl rfl (Nat.le_of_ble_eq_true rfl) (Nat.le_refl _) (Nat.le_refl _) (s_X11_isSpot (by omega) ?_)
  dsimp only [psh]
  refine x_ifeq (i := 2) (pc' := 7) (tgt := 16) rfl rfl (by decide) (by (repeat' split at *) <;> omega) (fun c1 => ?_) (fun c1 => ?_)
  · skip
    refine x_bipush (i := 8) (pc' := 18) rfl rfl (by decide) ?_
    exact m_ireturn (i := 9) rfl rfl (by (repeat' split at hQ) <;> first | exact hQ | (exfalso; omega))
  · skip
    refine x_iload_n (i := 3) (pc' := 8) rfl rfl rfl rfl ?_
    refine x_iconst (i := 4) (pc' := 9) rfl rfl ?_
    refine x_iconst (i := 5) (pc' := 10) rfl rfl ?_
    refine m_callS (i := 6) (pc' := 13) (av := [_, _, _]) (rest := []) rfl rfl (by decide) lX9_64 rfl rfl (Nat.le_of_ble_eq_true rfl) (Nat.le_refl _) (Nat.le_refl _) (s_X11_isWithin (by omega) (by omega) (by omega) ?_)
    dsimp only [psh]
    refine x_ifne (i := 7) (pc' := 16) (tgt := 19) rfl rfl (by decide) (by (repeat' split at *) <;> omega) (fun c2 => ?_) (fun c2 => ?_)
    · skip
      refine x_aload_n (i := 10) (pc' := 20) rfl rfl rfl rfl ?_
      refine m_getf (i := 11) (pc' := 23) rfl rfl flX9_25 (sh1 G) rfl rfl ?_
      refine x_iload_n (i := 12) (pc' := 24) rfl rfl rfl rfl ?_
      refine m_iald (i := 13) (pc' := 25) rfl rfl (sh7 G) (by decide) ⟨by (repeat' split at *) <;> omega, by (repeat' split at *) <;> omega⟩ ?_
      refine x_istore_n (L' := [some _, some _, some _, some _, none]) (i := 14) (pc' := 26) rfl rfl rfl rfl (by decide) rfl ?_
      refine x_iconst (i := 15) (pc' := 27) rfl rfl ?_
      refine x_istore (L' := [some _, some _, some _, some _, some _]) (i := 16) (pc' := 29) rfl rfl rfl (by decide) rfl ?_
      have hav : (0 ≤ a ∧ a ≤ 5) ∧ (0 ≤ v ∧ v ≤ 5) := (by (repeat' split at *) <;> omega)
      rw [if_pos hav, if_pos hav] at hQ
      refine up_ind1 (P := fun (j : Int) (x : Mem) => BW G 2 mX9_layOne Q 29 [some (.ref (G.2.2.2 1)), some (.int (J (a))), some (.int (J (v))), some (.int (J (m 7 a))), some (.int (J (j)))] [] x) (fun (j : Int) (x : Mem) => if x 7 j = v then stm x 7 j (m 7 a) else x) (fun (j : Int) (x : Mem) => MR x) (6) (0) (m) (by omega) (hM) (fun j x hj0 hj hi => by split <;> first | exact hi.st (hM _ _) | exact hi) (fun j x hj0 hj hi hk => ?_) (fun hi => ?_)
      · skip
        refine x_iload (i := 17) (pc' := 31) rfl rfl rfl ?_
        refine x_bipush (i := 18) (pc' := 33) rfl rfl (by decide) ?_
        refine x_icmpge (i := 19) (pc' := 36) (tgt := 61) rfl rfl (by decide) (by first | omega | exact hi _ _) (by first | omega | exact hi _ _) (fun e1 => by exfalso; omega) (fun e1 => ?_)
        refine x_aload_n (i := 20) (pc' := 37) rfl rfl rfl rfl ?_
        refine m_getf (i := 21) (pc' := 40) rfl rfl flX9_25 (sh1 G) rfl rfl ?_
        refine x_iload (i := 22) (pc' := 42) rfl rfl rfl ?_
        refine m_iald (i := 23) (pc' := 43) rfl rfl (sh7 G) (by decide) ⟨by omega, by omega⟩ ?_
        refine x_iload_n (i := 24) (pc' := 44) rfl rfl rfl rfl ?_
        refine x_icmpne (i := 25) (pc' := 47) (tgt := 55) rfl rfl (by decide) (by first | omega | exact hi _ _) (by first | omega | exact hi _ _) (fun e2 => ?_) (fun e2 => ?_)
        · skip
          refine x_iinc (L' := [some _, some _, some _, some _, some _]) (i := 31) (pc' := 58) rfl rfl rfl rfl (by decide) rfl ?_
          refine x_goto (i := 32) (pc' := 29) rfl (by decide) ?_
          (first | exact hk | (refine AW.le ?_ hk; simp [lvle]; done) | ((repeat' split at hk) <;> first | exact hk | (refine AW.le ?_ hk; simp [lvle]; done) | (exfalso; omega)))
        · skip
          refine x_aload_n (i := 26) (pc' := 48) rfl rfl rfl rfl ?_
          refine m_getf (i := 27) (pc' := 51) rfl rfl flX9_25 (sh1 G) rfl rfl ?_
          refine x_iload (i := 28) (pc' := 53) rfl rfl rfl ?_
          refine x_iload_n (i := 29) (pc' := 54) rfl rfl rfl rfl ?_
          refine m_iast (i := 30) (pc' := 55) rfl rfl (sh7 G) (by decide) ⟨by omega, by omega⟩ ?_
          refine x_iinc (L' := [some _, some _, some _, some _, some _]) (i := 31) (pc' := 58) rfl rfl rfl rfl (by decide) rfl ?_
          refine x_goto (i := 32) (pc' := 29) rfl (by decide) ?_
          (first | exact hk | (refine AW.le ?_ hk; simp [lvle]; done) | ((repeat' split at hk) <;> first | exact hk | (refine AW.le ?_ hk; simp [lvle]; done) | (exfalso; omega)))
      · skip
        refine x_iload (i := 17) (pc' := 31) rfl rfl rfl ?_
        refine x_bipush (i := 18) (pc' := 33) rfl rfl (by decide) ?_
        refine x_icmpge (i := 19) (pc' := 36) (tgt := 61) rfl rfl (by decide) ⟨by omega, by omega⟩ ⟨by omega, by omega⟩ (fun f1 => ?_) (fun f1 => by exfalso; omega)
        refine x_aload_n (i := 33) (pc' := 62) rfl rfl rfl rfl ?_
        refine m_getf (i := 34) (pc' := 65) rfl rfl flX9_25 (sh1 G) rfl rfl ?_
        refine x_iload_n (i := 35) (pc' := 66) rfl rfl rfl rfl ?_
        refine x_iload_n (i := 36) (pc' := 67) rfl rfl rfl rfl ?_
        refine m_iast (i := 37) (pc' := 68) rfl rfl (sh7 G) (by decide) ⟨by omega, by omega⟩ ?_
        refine x_iload_n (i := 38) (pc' := 69) rfl rfl rfl rfl ?_
        exact m_ireturn (i := 39) rfl rfl (hQ)
    · skip
      refine x_bipush (i := 8) (pc' := 18) rfl rfl (by decide) ?_
      exact m_ireturn (i := 9) rfl rfl (by (repeat' split at hQ) <;> first | exact hQ | (exfalso; omega))
theorem s_X10_check {G : GG} {m : Mem} {Q : Option Value → Mem → Prop} (hM : MR m) (hs : SN m) (hwd : WDS m) (hQ : Q none (ckm m)) : CM G 3 mX10_check [.ref (G.2.2.2 63), .ref (G.2.2.2 1)] m Q := by
  refine CM.of dkX10_check (Or.inl rfl) [some _, some _, none, none, none, none] rfl (Nat.le_of_ble_eq_true rfl) ?_
  have hs0 := hs.1; have hs1 := hs.2
  refine x_aload_n (i := 0) (pc' := 1) rfl rfl rfl rfl ?_
  refine x_iconst (i := 1) (pc' := 2) rfl rfl ?_
  refine m_putf (kz := 0) (i := 2) (pc' := 5) rfl rfl flX10_9 (sh63 G) (fun _ => rfl) rfl (Nat.le_of_ble_eq_true rfl) rfl rfl ?_
  refine x_aload_n (i := 3) (pc' := 6) rfl rfl rfl rfl ?_
  refine x_iconst (i := 4) (pc' := 7) rfl rfl ?_
  refine m_putf (kz := 1) (i := 5) (pc' := 10) rfl rfl flX10_15 (sh63 G) (fun _ => rfl) rfl (Nat.le_of_ble_eq_true rfl) rfl rfl ?_
  refine x_iconst (i := 6) (pc' := 11) rfl rfl ?_
  refine x_istore_n (L' := [some _, some _, some _, none, none, none]) (i := 7) (pc' := 12) rfl rfl rfl rfl (by decide) rfl ?_
  refine x_iconst (i := 8) (pc' := 13) rfl rfl ?_
  refine x_istore_n (L' := [some _, some _, some _, some _, none, none]) (i := 9) (pc' := 14) rfl rfl rfl rfl (by decide) rfl ?_
  refine x_iconst (i := 10) (pc' := 15) rfl rfl ?_
  refine x_istore (L' := [some _, some _, some _, some _, some _, none]) (i := 11) (pc' := 17) rfl rfl rfl (by decide) rfl ?_
  skip
  refine up_ind1 (P := fun (j : Int) (x : (Int × Int) × Mem) => BW G 3 mX10_check Q 17 [some (.ref (G.2.2.2 63)), some (.ref (G.2.2.2 1)), some (.int (J (x.1.1))), some (.int (J (x.1.2))), some (.int (J (j))), none] [] x.2) (fun (j : Int) (x : (Int × Int) × Mem) => ck j x) (fun (j : Int) (x : (Int × Int) × Mem) => CKI m j x) (m 5 1) (0) (((0, 0), stm (stm m 63 0 0) 63 1 0)) (by omega) (⟨((SW.rf m).st (by decide) _ _).st (by decide) _ _, (hM.st (by decide)).st (by decide), by (show (0 : Int) ≤ 0 ∧ (0 : Int) ≤ 0; decide), by (show (0 : Int) ≤ 0 ∧ (0 : Int) ≤ 0; decide), by (show 0 ≤ stm (stm m 63 0 0) 63 1 0 63 0 ∧ stm (stm m 63 0 0) 63 1 0 63 0 ≤ 0 * 16; rw [stm_ix _ _ _ (by decide), stm_eq]; omega), by (show 0 ≤ stm (stm m 63 0 0) 63 1 0 63 1 ∧ stm (stm m 63 0 0) 63 1 0 63 1 ≤ 0 * 16; rw [stm_eq]; omega)⟩) (fun j x hj0 hj hi => ck_I (by omega) hi) (fun j x hj0 hj hi hk => ?_) (fun hi => ?_)
  · obtain ⟨g1, g2, g3, g4, g5, g6⟩ := hi
    have k1 := g1.sn hs; have k2 := g1.wds hwd; have k3 := congrFun g1.2.2.1 1
    have k6 : rg (sw x.2 j) := g2 _ _
    refine x_iload (i := 12) (pc' := 19) rfl rfl rfl ?_
    refine x_aload_n (i := 13) (pc' := 20) rfl rfl rfl rfl ?_
    refine m_getf (i := 14) (pc' := 23) rfl rfl flX10_18 (sh1 G) rfl rfl ?_
    refine m_getf (i := 15) (pc' := 26) rfl rfl flX10_24 (sh5 G) rfl rfl ?_
    refine x_icmpge (i := 16) (pc' := 29) (tgt := 95) rfl rfl (by decide) ⟨by omega, by omega⟩ ⟨by omega, by omega⟩ (fun c1 => by exfalso; omega) (fun c1 => ?_)
    refine x_aload_n (i := 17) (pc' := 30) rfl rfl rfl rfl ?_
    refine x_iload (i := 18) (pc' := 32) rfl rfl rfl ?_
    refine m_callV (i := 19) (pc' := 35) (av := [_]) (rest := []) rfl rfl (by decide) lX10_29 (sh1 G) rfl rfl rfl rfl rfl (Nat.le_of_ble_eq_true rfl) (Nat.le_refl _) (Nat.le_refl _) (s_X9_sortOfWord k1 k2 (by omega) ?_)
    dsimp only [psh]
    refine x_istore (L' := [some _, some _, some _, some _, some _, some _]) (i := 20) (pc' := 37) rfl rfl rfl (by decide) rfl ?_
    refine x_iload (i := 21) (pc' := 39) rfl rfl rfl ?_
    refine x_iconst (i := 22) (pc' := 40) rfl rfl ?_
    refine x_icmpne (i := 23) (pc' := 43) (tgt := 60) rfl rfl (by decide) ⟨by omega, by omega⟩ ⟨by omega, by omega⟩ (fun c2 => ?_) (fun c2 => ?_)
    · skip
      refine x_iload (i := 35) (pc' := 62) rfl rfl rfl ?_
      refine x_ifne (i := 36) (pc' := 65) (tgt := 86) rfl rfl (by decide) ⟨by omega, by omega⟩ (fun c3 => ?_) (fun c3 => ?_)
      · skip
        refine x_iinc (L' := [some _, some _, some _, some _, some _, some _]) (i := 50) (pc' := 89) rfl rfl rfl rfl (by decide) rfl ?_
        refine x_iinc (L' := [some _, some _, some _, some _, some _, some _]) (i := 51) (pc' := 92) rfl rfl rfl rfl (by decide) rfl ?_
        refine x_goto (i := 52) (pc' := 17) rfl (by decide) ?_
        (unfold ck at hk; first | exact hk | (refine AW.le ?_ hk; simp [lvle]; done) | ((repeat' split at hk) <;> first | exact hk | (refine AW.le ?_ hk; simp [lvle]; done) | (exfalso; omega)))
      · skip
        refine x_aload_n (i := 37) (pc' := 66) rfl rfl rfl rfl ?_
        refine x_dup (i := 38) (pc' := 67) rfl rfl rfl ?_
        refine m_getf (i := 39) (pc' := 70) rfl rfl flX10_9 (sh63 G) rfl rfl ?_
        refine x_iload_n (i := 40) (pc' := 71) rfl rfl rfl rfl ?_
        refine x_iadd (i := 41) (pc' := 72) rfl rfl ?_
        refine m_putf (kz := 0) (i := 42) (pc' := 75) rfl rfl flX10_9 (sh63 G) (fun _ => rfl) rfl (Nat.le_of_ble_eq_true rfl) rfl rfl ?_
        refine x_iload_n (i := 43) (pc' := 76) rfl rfl rfl rfl ?_
        refine x_iconst (i := 44) (pc' := 77) rfl rfl ?_
        refine x_iadd (i := 45) (pc' := 78) rfl rfl ?_
        refine x_iload_n (i := 46) (pc' := 79) rfl rfl rfl rfl ?_
        refine m_callS (i := 47) (pc' := 82) (av := [_, _]) (rest := []) rfl rfl (by decide) lX10_33 rfl rfl (Nat.le_of_ble_eq_true rfl) (Nat.le_refl _) (Nat.le_refl _) (s_J9_min_7cf53 (by omega) (by omega) ?_)
        dsimp only [psh]
        refine x_istore_n (L' := [some _, some _, some _, some _, some _, some _]) (i := 48) (pc' := 83) rfl rfl rfl rfl (by decide) rfl ?_
        refine x_goto (i := 49) (pc' := 89) rfl (by decide) ?_
        refine x_iinc (L' := [some _, some _, some _, some _, some _, some _]) (i := 51) (pc' := 92) rfl rfl rfl rfl (by decide) rfl ?_
        refine x_goto (i := 52) (pc' := 17) rfl (by decide) ?_
        (unfold ck at hk; first | exact hk | (refine AW.le ?_ hk; simp [lvle]; done) | ((repeat' split at hk) <;> first | exact hk | (refine AW.le ?_ hk; simp [lvle]; done) | (exfalso; omega)))
    · skip
      refine x_aload_n (i := 24) (pc' := 44) rfl rfl rfl rfl ?_
      refine x_dup (i := 25) (pc' := 45) rfl rfl rfl ?_
      refine m_getf (i := 26) (pc' := 48) rfl rfl flX10_15 (sh63 G) rfl rfl ?_
      refine x_iload_n (i := 27) (pc' := 49) rfl rfl rfl rfl ?_
      refine x_iadd (i := 28) (pc' := 50) rfl rfl ?_
      refine m_putf (kz := 1) (i := 29) (pc' := 53) rfl rfl flX10_15 (sh63 G) (fun _ => rfl) rfl (Nat.le_of_ble_eq_true rfl) rfl rfl ?_
      refine x_iconst (i := 30) (pc' := 54) rfl rfl ?_
      refine x_istore_n (L' := [some _, some _, some _, some _, some _, some _]) (i := 31) (pc' := 55) rfl rfl rfl rfl (by decide) rfl ?_
      refine x_iconst (i := 32) (pc' := 56) rfl rfl ?_
      refine x_istore_n (L' := [some _, some _, some _, some _, some _, some _]) (i := 33) (pc' := 57) rfl rfl rfl rfl (by decide) rfl ?_
      refine x_goto (i := 34) (pc' := 89) rfl (by decide) ?_
      refine x_iinc (L' := [some _, some _, some _, some _, some _, some _]) (i := 51) (pc' := 92) rfl rfl rfl rfl (by decide) rfl ?_
      refine x_goto (i := 52) (pc' := 17) rfl (by decide) ?_
      (unfold ck at hk; first | exact hk | (refine AW.le ?_ hk; simp [lvle]; done) | ((repeat' split at hk) <;> first | exact hk | (refine AW.le ?_ hk; simp [lvle]; done) | (exfalso; omega)))
  · have k3 := congrFun hi.1.2.2.1 1
    refine x_iload (i := 12) (pc' := 19) rfl rfl rfl ?_
    refine x_aload_n (i := 13) (pc' := 20) rfl rfl rfl rfl ?_
    refine m_getf (i := 14) (pc' := 23) rfl rfl flX10_18 (sh1 G) rfl rfl ?_
    refine m_getf (i := 15) (pc' := 26) rfl rfl flX10_24 (sh5 G) rfl rfl ?_
    refine x_icmpge (i := 16) (pc' := 29) (tgt := 95) rfl rfl (by decide) ⟨by omega, by omega⟩ ⟨by omega, by omega⟩ (fun c1 => ?_) (fun c1 => by exfalso; omega)
    refine x_aload_n (i := 53) (pc' := 96) rfl rfl rfl rfl ?_
    refine x_dup (i := 54) (pc' := 97) rfl rfl rfl ?_
    refine m_getf (i := 55) (pc' := 100) rfl rfl flX10_15 (sh63 G) rfl rfl ?_
    refine x_iload_n (i := 56) (pc' := 101) rfl rfl rfl rfl ?_
    refine x_iadd (i := 57) (pc' := 102) rfl rfl ?_
    refine m_putf (kz := 1) (i := 58) (pc' := 105) rfl rfl flX10_15 (sh63 G) (fun _ => rfl) rfl (Nat.le_of_ble_eq_true rfl) rfl rfl ?_
    exact m_return (i := 59) rfl rfl (by rw [Int.sub_zero]; exact hQ)
theorem s_X6_add {G : GG} {m : Mem} {Q : Option Value → Mem → Prop} {a : Int} (h1 : rg a) (h2 : 0 ≤ m 64 1 ∧ m 64 1 ≤ 32) (hQ : Q none (pa m a)) : CM G 2 mX6_add [.ref (G.2.2.2 64), .int (J (a))] m Q := by
  refine CM.of dkX6_add (Or.inl rfl) [some _, some _] rfl (Nat.le_of_ble_eq_true rfl) ?_
  refine x_iload_n (i := 0) (pc' := 1) rfl rfl rfl rfl ?_
  refine m_callS (i := 1) (pc' := 4) (av := [_]) (rest := []) rfl rfl (by decide) lX6_33 rfl rfl (Nat.le_of_ble_eq_true rfl) (Nat.le_refl _) (Nat.le_refl _) (s_X11_isSpot (by omega) ?_)
  dsimp only [psh]
  refine x_ifeq (i := 2) (pc' := 7) (tgt := 39) rfl rfl (by decide) (by (repeat' split at *) <;> omega) (fun c1 => ?_) (fun c1 => ?_)
  · skip
    exact m_return (i := 21) rfl rfl (by unfold pa at hQ; (repeat' split at hQ) <;> first | exact hQ | (exfalso; omega))
  · skip
    refine x_aload_n (i := 3) (pc' := 8) rfl rfl rfl rfl ?_
    refine m_getf (i := 4) (pc' := 11) rfl rfl flX6_15 (sh64 G) rfl rfl ?_
    refine x_aload_n (i := 5) (pc' := 12) rfl rfl rfl rfl ?_
    refine m_getf (i := 6) (pc' := 15) rfl rfl flX6_9 (sh64 G) rfl rfl ?_
    refine m_alen (i := 7) (pc' := 16) rfl rfl (sh65 G) ?_
    refine x_icmpge (i := 8) (pc' := 19) (tgt := 39) rfl rfl (by decide) (by (repeat' split at *) <;> omega) (by (repeat' split at *) <;> omega) (fun c2 => ?_) (fun c2 => ?_)
    · skip
      exact m_return (i := 21) rfl rfl (by unfold pa at hQ; (repeat' split at hQ) <;> first | exact hQ | (exfalso; omega))
    · skip
      refine x_aload_n (i := 9) (pc' := 20) rfl rfl rfl rfl ?_
      refine m_getf (i := 10) (pc' := 23) rfl rfl flX6_9 (sh64 G) rfl rfl ?_
      refine x_aload_n (i := 11) (pc' := 24) rfl rfl rfl rfl ?_
      refine m_getf (i := 12) (pc' := 27) rfl rfl flX6_15 (sh64 G) rfl rfl ?_
      refine x_iload_n (i := 13) (pc' := 28) rfl rfl rfl rfl ?_
      refine m_iast (i := 14) (pc' := 29) rfl rfl (sh65 G) (by decide) ⟨by (repeat' split at *) <;> omega, by (repeat' split at *) <;> omega⟩ ?_
      refine x_aload_n (i := 15) (pc' := 30) rfl rfl rfl rfl ?_
      refine x_dup (i := 16) (pc' := 31) rfl rfl rfl ?_
      refine m_getf (i := 17) (pc' := 34) rfl rfl flX6_15 (sh64 G) rfl rfl ?_
      refine x_iconst (i := 18) (pc' := 35) rfl rfl ?_
      refine x_iadd (i := 19) (pc' := 36) rfl rfl ?_
      refine m_putf (kz := 1) (i := 20) (pc' := 39) rfl rfl flX6_15 (sh64 G) (fun _ => rfl) rfl (Nat.le_of_ble_eq_true rfl) rfl rfl ?_
      exact m_return (i := 21) rfl rfl (by unfold pa at hQ; (repeat' split at hQ) <;> first | exact hQ | (exfalso; omega))
theorem s_X6_follow {G : GG} {m : Mem} {Q : Option Value → Mem → Prop} (hM : MR m) (hs : SN m) (hQ : Q none (fwm m)) : CM G 3 mX6_follow [.ref (G.2.2.2 64), .ref (G.2.2.2 5)] m Q := by
  refine CM.of dkX6_follow (Or.inl rfl) [some _, some _, none] rfl (Nat.le_of_ble_eq_true rfl) ?_
  have hs0 := hs.1; have hs1 := hs.2
  refine x_aload_n (i := 0) (pc' := 1) rfl rfl rfl rfl ?_
  refine x_iconst (i := 1) (pc' := 2) rfl rfl ?_
  refine m_putf (kz := 1) (i := 2) (pc' := 5) rfl rfl flX6_15 (sh64 G) (fun _ => rfl) rfl (Nat.le_of_ble_eq_true rfl) rfl rfl ?_
  refine x_iconst (i := 3) (pc' := 6) rfl rfl ?_
  refine x_istore_n (L' := [some _, some _, some _]) (i := 4) (pc' := 7) rfl rfl rfl rfl (by decide) rfl ?_
  skip
  refine up_ind1 (P := fun (j : Int) (x : Mem) => BW G 3 mX6_follow Q 7 [some (.ref (G.2.2.2 64)), some (.ref (G.2.2.2 5)), some (.int (J (j)))] [] x) (fun (j : Int) (x : Mem) => pw j x) (fun (j : Int) (x : Mem) => PWI m j x) (m 5 1) (0) (stm m 64 1 0) (by omega) (⟨(SW.rf m).st (by decide) _ _, hM.st (by decide), by (rw [stm_eq]; decide), fun n h1 h2 => by (rw [stm_eq] at h2; omega)⟩) (fun j x hj0 hj hi => pw_I (by omega) hi) (fun j x hj0 hj hi hk => ?_) (fun hi => ?_)
  · obtain ⟨g1, g2, g3, g4⟩ := hi
    have k1 := g1.sn hs; have k3 := congrFun g1.2.2.1 1
    have a1 := pa_n (m := x) (s := x 6 (j * 3 + 1)) (by omega)
    have a2 := pa_MR g2 (g2 6 (j * 3 + 1)) (by omega)
    have l1 := (g1.pa (x 6 (j * 3 + 1))); have l2 := l1.sn hs; have l3 := congrFun l1.2.2.1 1
    refine x_iload_n (i := 5) (pc' := 8) rfl rfl rfl rfl ?_
    refine x_aload_n (i := 6) (pc' := 9) rfl rfl rfl rfl ?_
    refine m_getf (i := 7) (pc' := 12) rfl rfl flX6_19 (sh5 G) rfl rfl ?_
    refine x_icmpge (i := 8) (pc' := 15) (tgt := 39) rfl rfl (by decide) ⟨by omega, by omega⟩ ⟨by omega, by omega⟩ (fun c1 => by exfalso; omega) (fun c1 => ?_)
    refine x_aload_n (i := 9) (pc' := 16) rfl rfl rfl rfl ?_
    refine x_aload_n (i := 10) (pc' := 17) rfl rfl rfl rfl ?_
    refine x_iload_n (i := 11) (pc' := 18) rfl rfl rfl rfl ?_
    refine m_callV (i := 12) (pc' := 21) (av := [_]) (rest := [_]) rfl rfl (by decide) lX6_22 (sh5 G) rfl rfl rfl rfl rfl (Nat.le_of_ble_eq_true rfl) (Nat.le_refl _) (Nat.le_refl _) (s_X8_from k1 (by omega) ?_)
    dsimp only [psh]
    refine m_callV (i := 13) (pc' := 24) (av := [_]) (rest := []) rfl rfl (by decide) lX6_26 (sh64 G) rfl rfl rfl rfl rfl (Nat.le_of_ble_eq_true rfl) (Nat.le_refl _) (Nat.le_refl _) (s_X6_add (g2 _ _) (by omega) ?_)
    dsimp only [psh]
    refine x_aload_n (i := 14) (pc' := 25) rfl rfl rfl rfl ?_
    refine x_aload_n (i := 15) (pc' := 26) rfl rfl rfl rfl ?_
    refine x_iload_n (i := 16) (pc' := 27) rfl rfl rfl rfl ?_
    refine m_callV (i := 17) (pc' := 30) (av := [_]) (rest := [_]) rfl rfl (by decide) lX6_30 (sh5 G) rfl rfl rfl rfl rfl (Nat.le_of_ble_eq_true rfl) (Nat.le_refl _) (Nat.le_refl _) (s_X8_to l2 (by omega) ?_)
    dsimp only [psh]
    refine m_callV (i := 18) (pc' := 33) (av := [_]) (rest := []) rfl rfl (by decide) lX6_26 (sh64 G) rfl rfl rfl rfl rfl (Nat.le_of_ble_eq_true rfl) (Nat.le_refl _) (Nat.le_refl _) (s_X6_add (a2 _ _) (by omega) ?_)
    dsimp only [psh]
    refine x_iinc (L' := [some _, some _, some _]) (i := 19) (pc' := 36) rfl rfl rfl rfl (by decide) rfl ?_
    refine x_goto (i := 20) (pc' := 7) rfl (by decide) ?_
    (unfold pw at hk; first | exact hk | (refine AW.le ?_ hk; simp [lvle]; done) | ((repeat' split at hk) <;> first | exact hk | (refine AW.le ?_ hk; simp [lvle]; done) | (exfalso; omega)))
  · have k3 := congrFun hi.1.2.2.1 1
    refine x_iload_n (i := 5) (pc' := 8) rfl rfl rfl rfl ?_
    refine x_aload_n (i := 6) (pc' := 9) rfl rfl rfl rfl ?_
    refine m_getf (i := 7) (pc' := 12) rfl rfl flX6_19 (sh5 G) rfl rfl ?_
    refine x_icmpge (i := 8) (pc' := 15) (tgt := 39) rfl rfl (by decide) ⟨by omega, by omega⟩ ⟨by omega, by omega⟩ (fun c1 => ?_) (fun c1 => by exfalso; omega)
    exact m_return (i := 21) rfl rfl (by rw [Int.sub_zero]; exact hQ)
theorem s_X6_lengthWith {G : GG} {m : Mem} {Q : Option Value → Mem → Prop} (hc : 0 ≤ m 64 1 ∧ m 64 1 ≤ 32) (hp : ∀ n, 0 ≤ n → n < m 64 1 → 0 ≤ m 65 n ∧ m 65 n ≤ 5) (ho : ∀ s, 0 ≤ s → s ≤ 5 → 0 ≤ m 7 s ∧ m 7 s ≤ 5) (hQ : Q (some (.int (J (ple m)))) m) : CM G 1 mX6_lengthWith [.ref (G.2.2.2 64), .ref (G.2.2.2 7)] m Q := by
  refine CM.of dkX6_lengthWith (Or.inl rfl) [some _, some _, none, none] rfl (Nat.le_of_ble_eq_true rfl) ?_
  refine x_iconst (i := 0) (pc' := 1) rfl rfl ?_
  refine x_istore_n (L' := [some _, some _, some _, none]) (i := 1) (pc' := 2) rfl rfl rfl rfl (by decide) rfl ?_
  refine x_iconst (i := 2) (pc' := 3) rfl rfl ?_
  refine x_istore_n (L' := [some _, some _, some _, some _]) (i := 3) (pc' := 4) rfl rfl rfl rfl (by decide) rfl ?_
  skip
  by_cases hz : m 64 1 < 1
  · have e0 : ple m = 0 := (by unfold ple; rw [show (m 64 1 - 1).toNat = 0 by omega]; rfl)
    rw [e0] at hQ
    refine x_iload_n (i := 4) (pc' := 5) rfl rfl rfl rfl ?_
    refine x_aload_n (i := 5) (pc' := 6) rfl rfl rfl rfl ?_
    refine m_getf (i := 6) (pc' := 9) rfl rfl flX6_15 (sh64 G) rfl rfl ?_
    refine x_icmpge (i := 7) (pc' := 12) (tgt := 43) rfl rfl (by decide) ⟨by omega, by omega⟩ ⟨by omega, by omega⟩ (fun c1 => ?_) (fun c1 => by exfalso; omega)
    refine x_iload_n (i := 29) (pc' := 44) rfl rfl rfl rfl ?_
    exact m_ireturn (i := 30) rfl rfl (hQ)
  · skip
    refine up_ind0 (P := fun (j : Int) (x : Int) => BW G 1 mX6_lengthWith Q 4 [some (.ref (G.2.2.2 64)), some (.ref (G.2.2.2 7)), some (.int (J (x))), some (.int (J (j)))] [] m) (fun (j : Int) (x : Int) => x + ab (m 7 (m 65 j) - m 7 (m 65 (j - 1)))) (m 64 1) (1) (0) (by omega) (fun j x hj0 hj hk => ?_) ?_
    · have q1 := hp j (by omega) (by omega); have q2 := hp (j - 1) (by omega) (by omega)
      have o1 := ho _ q1.1 q1.2; have o2 := ho _ q2.1 q2.2
      refine x_iload_n (i := 4) (pc' := 5) rfl rfl rfl rfl ?_
      refine x_aload_n (i := 5) (pc' := 6) rfl rfl rfl rfl ?_
      refine m_getf (i := 6) (pc' := 9) rfl rfl flX6_15 (sh64 G) rfl rfl ?_
      refine x_icmpge (i := 7) (pc' := 12) (tgt := 43) rfl rfl (by decide) ⟨by omega, by omega⟩ ⟨by omega, by omega⟩ (fun c1 => by exfalso; omega) (fun c1 => ?_)
      refine x_iload_n (i := 8) (pc' := 13) rfl rfl rfl rfl ?_
      refine x_aload_n (i := 9) (pc' := 14) rfl rfl rfl rfl ?_
      refine x_aload_n (i := 10) (pc' := 15) rfl rfl rfl rfl ?_
      refine m_getf (i := 11) (pc' := 18) rfl rfl flX6_9 (sh64 G) rfl rfl ?_
      refine x_iload_n (i := 12) (pc' := 19) rfl rfl rfl rfl ?_
      refine m_iald (i := 13) (pc' := 20) rfl rfl (sh65 G) (by decide) ⟨by omega, by omega⟩ ?_
      refine m_iald (i := 14) (pc' := 21) rfl rfl (sh7 G) (by decide) ⟨by omega, by omega⟩ ?_
      refine x_aload_n (i := 15) (pc' := 22) rfl rfl rfl rfl ?_
      refine x_aload_n (i := 16) (pc' := 23) rfl rfl rfl rfl ?_
      refine m_getf (i := 17) (pc' := 26) rfl rfl flX6_9 (sh64 G) rfl rfl ?_
      refine x_iload_n (i := 18) (pc' := 27) rfl rfl rfl rfl ?_
      refine x_iconst (i := 19) (pc' := 28) rfl rfl ?_
      refine x_isub (i := 20) (pc' := 29) rfl rfl ?_
      refine m_iald (i := 21) (pc' := 30) rfl rfl (sh65 G) (by decide) ⟨by omega, by omega⟩ ?_
      refine m_iald (i := 22) (pc' := 31) rfl rfl (sh7 G) (by decide) ⟨by omega, by omega⟩ ?_
      refine x_isub (i := 23) (pc' := 32) rfl rfl ?_
      refine m_callS (i := 24) (pc' := 35) (av := [_]) (rest := [_]) rfl rfl (by decide) lX6_37 rfl rfl (Nat.le_of_ble_eq_true rfl) (Nat.le_refl _) (Nat.le_refl _) (s_J9_abs_0f7a4 (by omega) ?_)
      dsimp only [psh]
      refine x_iadd (i := 25) (pc' := 36) rfl rfl ?_
      refine x_istore_n (L' := [some _, some _, some _, some _]) (i := 26) (pc' := 37) rfl rfl rfl rfl (by decide) rfl ?_
      refine x_iinc (L' := [some _, some _, some _, some _]) (i := 27) (pc' := 40) rfl rfl rfl rfl (by decide) rfl ?_
      refine x_goto (i := 28) (pc' := 4) rfl (by decide) ?_
      (first | exact hk | (refine AW.le ?_ hk; simp [lvle]; done) | ((repeat' split at hk) <;> first | exact hk | (refine AW.le ?_ hk; simp [lvle]; done) | (exfalso; omega)))
    · skip
      refine x_iload_n (i := 4) (pc' := 5) rfl rfl rfl rfl ?_
      refine x_aload_n (i := 5) (pc' := 6) rfl rfl rfl rfl ?_
      refine m_getf (i := 6) (pc' := 9) rfl rfl flX6_15 (sh64 G) rfl rfl ?_
      refine x_icmpge (i := 7) (pc' := 12) (tgt := 43) rfl rfl (by decide) ⟨by omega, by omega⟩ ⟨by omega, by omega⟩ (fun c1 => ?_) (fun c1 => by exfalso; omega)
      refine x_iload_n (i := 29) (pc' := 44) rfl rfl rfl rfl ?_
      exact m_ireturn (i := 30) rfl rfl (hQ)
theorem s_X6_setOfSpots {G : GG} {m : Mem} {Q : Option Value → Mem → Prop} (hc : 0 ≤ m 64 1 ∧ m 64 1 ≤ 32) (hp : ∀ n, 0 ≤ n → n < m 64 1 → 0 ≤ m 65 n ∧ m 65 n ≤ 5) (hQ : Q (some (.int (J (pss m)))) m) : CM G 0 mX6_setOfSpots [.ref (G.2.2.2 64)] m Q := by
  refine CM.of dkX6_setOfSpots (Or.inl rfl) [some _, none, none] rfl (Nat.le_of_ble_eq_true rfl) ?_
  refine x_iconst (i := 0) (pc' := 1) rfl rfl ?_
  refine x_istore_n (L' := [some _, some _, none]) (i := 1) (pc' := 2) rfl rfl rfl rfl (by decide) rfl ?_
  refine x_iconst (i := 2) (pc' := 3) rfl rfl ?_
  refine x_istore_n (L' := [some _, some _, some _]) (i := 3) (pc' := 4) rfl rfl rfl rfl (by decide) rfl ?_
  skip
  refine up_ind1 (P := fun (j : Int) (x : Int) => BW G 0 mX6_setOfSpots Q 4 [some (.ref (G.2.2.2 64)), some (.int (J (x))), some (.int (J (j)))] [] m) (fun (j : Int) (x : Int) => io x (1 * 2 ^ (m 65 j).toNat)) (fun (j : Int) (x : Int) => 0 ≤ x) (m 64 1) (0) (0) (by omega) (by omega) (fun j x hj0 hj hi => io_nn _ _) (fun j x hj0 hj hi hk => ?_) (fun hi => ?_)
  · have q1 := hp j (by omega) (by omega)
    refine x_iload_n (i := 4) (pc' := 5) rfl rfl rfl rfl ?_
    refine x_aload_n (i := 5) (pc' := 6) rfl rfl rfl rfl ?_
    refine m_getf (i := 6) (pc' := 9) rfl rfl flX6_15 (sh64 G) rfl rfl ?_
    refine x_icmpge (i := 7) (pc' := 12) (tgt := 29) rfl rfl (by decide) ⟨by omega, by omega⟩ ⟨by omega, by omega⟩ (fun c1 => by exfalso; omega) (fun c1 => ?_)
    refine x_iload_n (i := 8) (pc' := 13) rfl rfl rfl rfl ?_
    refine x_iconst (i := 9) (pc' := 14) rfl rfl ?_
    refine x_aload_n (i := 10) (pc' := 15) rfl rfl rfl rfl ?_
    refine m_getf (i := 11) (pc' := 18) rfl rfl flX6_9 (sh64 G) rfl rfl ?_
    refine x_iload_n (i := 12) (pc' := 19) rfl rfl rfl rfl ?_
    refine m_iald (i := 13) (pc' := 20) rfl rfl (sh65 G) (by decide) ⟨by first | omega | (exact Int.mul_nonneg (by omega) (Int.le_of_lt (Int.pow_pos (by omega)))), by first | omega | (exact Int.mul_nonneg (by omega) (Int.le_of_lt (Int.pow_pos (by omega))))⟩ ?_
    refine x_ishl (i := 14) (pc' := 21) rfl rfl (by first | omega | (exact Int.mul_nonneg (by omega) (Int.le_of_lt (Int.pow_pos (by omega))))) (by first | omega | (exact Int.mul_nonneg (by omega) (Int.le_of_lt (Int.pow_pos (by omega))))) ?_
    refine x_ior (i := 15) (pc' := 22) rfl rfl (by first | omega | (exact Int.mul_nonneg (by omega) (Int.le_of_lt (Int.pow_pos (by omega))))) (by first | omega | (exact Int.mul_nonneg (by omega) (Int.le_of_lt (Int.pow_pos (by omega))))) ?_
    refine x_istore_n (L' := [some _, some _, some _]) (i := 16) (pc' := 23) rfl rfl rfl rfl (by decide) rfl ?_
    refine x_iinc (L' := [some _, some _, some _]) (i := 17) (pc' := 26) rfl rfl rfl rfl (by decide) rfl ?_
    refine x_goto (i := 18) (pc' := 4) rfl (by decide) ?_
    (first | exact hk | (refine AW.le ?_ hk; simp [lvle]; done) | ((repeat' split at hk) <;> first | exact hk | (refine AW.le ?_ hk; simp [lvle]; done) | (exfalso; omega)))
  · skip
    refine x_iload_n (i := 4) (pc' := 5) rfl rfl rfl rfl ?_
    refine x_aload_n (i := 5) (pc' := 6) rfl rfl rfl rfl ?_
    refine m_getf (i := 6) (pc' := 9) rfl rfl flX6_15 (sh64 G) rfl rfl ?_
    refine x_icmpge (i := 7) (pc' := 12) (tgt := 29) rfl rfl (by decide) ⟨by omega, by omega⟩ ⟨by omega, by omega⟩ (fun c1 => ?_) (fun c1 => by exfalso; omega)
    refine x_iload_n (i := 19) (pc' := 30) rfl rfl rfl rfl ?_
    exact m_ireturn (i := 20) rfl rfl (by rw [Int.sub_zero]; exact hQ)
end
section
theorem ia_le (a b : Int) : ia a b ≤ b.toNat ∧ ia a b ≤ a.toNat := by
  unfold ia
  have h1 := Nat.and_le_right (n := a.toNat) (m := b.toNat)
  have h2 := Nat.and_le_left (n := a.toNat) (m := b.toNat)
  omega
theorem io_lt {a b : Int} (n : Nat) (ha : 0 ≤ a ∧ a < 2 ^ n) (hb : 0 ≤ b ∧ b < 2 ^ n) : io a b < 2 ^ n := by
  have h2 : ((2 ^ n : Nat) : Int) = (2 : Int) ^ n := by simp
  have h := Nat.or_lt_two_pow (n := n) (x := a.toNat) (y := b.toNat) (by omega) (by omega)
  unfold io
  omega
theorem pw3 {j : Int} (h : 0 ≤ j ∧ j ≤ 3) : 1 ≤ (1 : Int) * 2 ^ j.toNat ∧ (1 : Int) * 2 ^ j.toNat ≤ 8 := by
  rcases (by omega : j = 0 ∨ j = 1 ∨ j = 2 ∨ j = 3) with rfl | rfl | rfl | rfl <;> decide
theorem pw5 {j : Int} (h : 0 ≤ j ∧ j ≤ 5) : 1 ≤ (1 : Int) * 2 ^ j.toNat ∧ (1 : Int) * 2 ^ j.toNat < 64 := by
  rcases (by omega : j = 0 ∨ j = 1 ∨ j = 2 ∨ j = 3 ∨ j = 4 ∨ j = 5) with rfl | rfl | rfl | rfl | rfl | rfl <;> decide
theorem df_16 (m : Mem) (a b : Int) : 0 ≤ df m a b ∧ df m a b < 16 := by
  have k : ∀ (c : Prop) [Decidable c] (x : Int) (p : Nat), p < 4 → 0 ≤ x ∧ x < 16 → 0 ≤ (if c then x else io x (1 * 2 ^ p)) ∧ (if c then x else io x (1 * 2 ^ p)) < 16 := by
    intro c _ x p hp hx
    split
    · exact hx
    · refine ⟨io_nn _ _, io_lt 4 (by omega) ?_⟩
      rcases (by omega : p = 0 ∨ p = 1 ∨ p = 2 ∨ p = 3) with rfl | rfl | rfl | rfl <;> decide
  have r := k (m 3 (a * 5 + 3) = m 3 (b * 5 + 3)) _ 3 (by omega) (k (m 3 (a * 5 + 2) = m 3 (b * 5 + 2)) _ 2 (by omega) (k (m 3 (a * 5 + 1) = m 3 (b * 5 + 1)) _ 1 (by omega) (k (m 3 (a * 5 + 0) = m 3 (b * 5 + 0)) 0 0 (by omega) (by omega))))
  have e : df m a b < 16 ∧ 0 ≤ df m a b := ⟨r.2, r.1⟩
  omega
def cj (j k : Int) (x : Mem) : Mem := stm x 74 (df x j k) (x 74 (df x j k) + 1)
def crw (n j : Int) (x : Mem) : Mem := it (fun k x => cj j k x) (j + 1) (n - (j + 1)).toNat x
def cmm (m : Mem) : Mem := it (fun j x => crw (m 2 2) j x) 0 (m 2 2).toNat (flm m 74 16 0)
def CJI (m : Mem) (b : Int) (x : Mem) : Prop := SW m x ∧ MR x ∧ ∀ i, 0 ≤ i → i < 16 → 0 ≤ x 74 i ∧ x 74 i ≤ b
theorem cj_I {m : Mem} {j k b : Int} {x : Mem} (hb : 0 ≤ b ∧ b ≤ 1000) (h : CJI m b x) : CJI m (b + 1) (cj j k x) := by
  obtain ⟨h1, h2, h3⟩ := h
  have hd := df_16 x j k
  have h4 := h3 _ hd.1 hd.2
  refine ⟨h1.st (by decide) _ _, h2.st (by omega), fun i a c => ?_⟩
  have h5 := h3 i a c
  unfold cj
  by_cases hi : i = df x j k
  · rw [hi, stm_eq]; omega
  · rw [stm_ix _ _ _ hi]; omega
theorem it_Ij {α : Type} {f : Int → α → α} (I : Int → α → Prop) : ∀ (n : Nat) (j : Int) (x : α), (∀ i y, j ≤ i → i < j + n → I i y → I (i + 1) (f i y)) → I j x → I (j + n) (it f j n x)
  | 0, j, x, _, h => by rw [show j + ((0 : Nat) : Int) = j by omega]; exact h
  | n + 1, j, x, hf, h => by
    have := it_Ij I n (j + 1) (f j x) (fun i y h1 h2 => hf i y (by omega) (by omega)) (hf j x (by omega) (by omega) h)
    rw [show j + ((n + 1 : Nat) : Int) = j + 1 + (n : Int) by omega]
    exact this
theorem crw_I {m : Mem} {n j : Int} {x : Mem} (hn : n ≤ 16) (hj : 0 ≤ j ∧ j < n) (h : CJI m (j * 16) x) : CJI m ((j + 1) * 16) (crw n j x) := by
  have h0 : CJI m (j * 16 + (j + 1)) x := ⟨h.1, h.2.1, fun i a c => by have := h.2.2 i a c; omega⟩
  have := it_Ij (f := fun k x => cj j k x) (fun k x => CJI m (j * 16 + k) x) (n - (j + 1)).toNat (j + 1) x (fun i y h1 h2 h3 => by
    have := cj_I (m := m) (j := j) (k := i) (b := j * 16 + i) (x := y) (by omega) h3
    rw [show j * 16 + (i + 1) = j * 16 + i + 1 by omega]; exact this) h0
  exact ⟨this.1, this.2.1, fun i a c => by have := this.2.2 i a c; unfold crw; omega⟩
def mpr (m : Mem) (a : Int) : Int := it (fun p x => if a = -1 ∨ a = p then x + m 74 (1 * 2 ^ p.toNat) else x) 0 4 0
def suf (m : Mem) (a : Int) : Prop := ∀ d, 0 ≤ d → d < 16 → ¬ (0 < m 74 d ∧ ia d a = 0)
noncomputable def lsf (m : Mem) : Int := it (fun s x => if pop s < pop x ∧ ¬ bp (suf m s) = 0 then s else x) 0 16 15
theorem fl_get {q : Nat} {v : Int} : ∀ (n : Nat) (j i : Int) (m : Mem), (j ≤ i ∧ i < j + n → it (fun j (x : Mem) => stm x q j v) j n m q i = v) ∧ (¬ (j ≤ i ∧ i < j + n) → it (fun j (x : Mem) => stm x q j v) j n m q i = m q i)
  | 0, j, i, m => ⟨fun h => by omega, fun _ => rfl⟩
  | n + 1, j, i, m => by
    have ih := fl_get (q := q) (v := v) n (j + 1) i (stm m q j v)
    rw [it]
    constructor
    · intro h
      by_cases hi : i = j
      · subst hi; rw [ih.2 (by omega), stm_eq]
      · exact ih.1 (by omega)
    · intro h
      rw [ih.2 (by omega), stm_ix _ _ _ (by omega)]
theorem s_X2_compare {G : GG} {m : Mem} {Q : Option Value → Mem → Prop} (hM : MR m) (hn : CN m) (hQ : Q none (cmm m)) : CM G 2 mX2_compare [.ref (G.2.2.2 73), .ref (G.2.2.2 2)] m Q := by
  refine CM.of dkX2_compare (Or.inl rfl) [some _, some _, none, none] rfl (Nat.le_of_ble_eq_true rfl) ?_
  have hn0 := hn.1; have hn1 := hn.2
  refine x_aload_n (i := 0) (pc' := 1) rfl rfl rfl rfl ?_
  refine m_getf (i := 1) (pc' := 4) rfl rfl flX2_11 (sh73 G) rfl rfl ?_
  refine x_iconst (i := 2) (pc' := 5) rfl rfl ?_
  refine m_callS (i := 3) (pc' := 8) (av := [_, _]) (rest := []) rfl rfl (by decide) lX2_15 rfl rfl (Nat.le_of_ble_eq_true rfl) (Nat.le_refl _) (Nat.le_refl _) (s_fill_74 ?_)
  dsimp only [psh]
  refine x_iconst (i := 4) (pc' := 9) rfl rfl ?_
  refine x_istore_n (L' := [some _, some _, some _, none]) (i := 5) (pc' := 10) rfl rfl rfl rfl (by decide) rfl ?_
  skip
  refine up_ind1 (P := fun (j : Int) (x : Mem) => BW G 2 mX2_compare Q 10 [some (.ref (G.2.2.2 73)), some (.ref (G.2.2.2 2)), some (.int (J (j))), none] [] x) (fun (j : Int) (x : Mem) => crw (m 2 2) j x) (fun (j : Int) (x : Mem) => CJI m (j * 16) x) (m 2 2) (0) (flm m 74 16 0) (by omega) (⟨⟨flm_ne (by decide) _ _ _ _, flm_ne (by decide) _ _ _ _, flm_ne (by decide) _ _ _ _, flm_ne (by decide) _ _ _ _⟩, flm_MR (by decide) _ _ _ hM, fun i a c => by (have h9 := (fl_get (q := 74) (v := 0) 16 0 i m).1 (by omega); unfold flm; omega)⟩) (fun j x hj0 hj hi => crw_I hn.2 (by omega) hi) (fun j x hj0 hj hi hk => ?_) (fun hi => ?_)
  · have k3 := congrFun hi.1.1 2
    refine x_iload_n (i := 6) (pc' := 11) rfl rfl rfl rfl ?_
    refine x_aload_n (i := 7) (pc' := 12) rfl rfl rfl rfl ?_
    refine m_getf (i := 8) (pc' := 15) rfl rfl flX2_21 (sh2 G) rfl rfl ?_
    refine x_icmpge (i := 9) (pc' := 18) (tgt := 57) rfl rfl (by decide) ⟨by omega, by omega⟩ ⟨by omega, by omega⟩ (fun c1 => by exfalso; omega) (fun c1 => ?_)
    refine x_iload_n (i := 10) (pc' := 19) rfl rfl rfl rfl ?_
    refine x_iconst (i := 11) (pc' := 20) rfl rfl ?_
    refine x_iadd (i := 12) (pc' := 21) rfl rfl ?_
    refine x_istore_n (L' := [some _, some _, some _, some _]) (i := 13) (pc' := 22) rfl rfl rfl rfl (by decide) rfl ?_
    refine up_ind1 (P := fun (k : Int) (y : Mem) => BW G 2 mX2_compare Q 22 [some (.ref (G.2.2.2 73)), some (.ref (G.2.2.2 2)), some (.int (J (j))), some (.int (J (k)))] [] y) (fun (k : Int) (y : Mem) => cj j k y) (fun (k : Int) (y : Mem) => CJI m (j * 16 + k) y) (m 2 2) (j + 1) (x) (by omega) (⟨hi.1, hi.2.1, fun i a c => by (have := hi.2.2 i a c; omega)⟩) (fun k y hj02 hj2 hi2 => by (have h9 := cj_I (j := j) (k := k) (by omega) hi2; rw [show j * 16 + (k + 1) = j * 16 + k + 1 by omega]; exact h9)) (fun k y hj02 hj2 hi2 hk2 => ?_) (fun hi2 => ?_)
    · have k3 := congrFun hi2.1.1 2
      have hdf := df_16 y j k
      refine x_iload_n (i := 14) (pc' := 23) rfl rfl rfl rfl ?_
      refine x_aload_n (i := 15) (pc' := 24) rfl rfl rfl rfl ?_
      refine m_getf (i := 16) (pc' := 27) rfl rfl flX2_21 (sh2 G) rfl rfl ?_
      refine x_icmpge (i := 17) (pc' := 30) (tgt := 51) rfl rfl (by decide) ⟨by omega, by omega⟩ ⟨by omega, by omega⟩ (fun e1 => by exfalso; omega) (fun e1 => ?_)
      refine x_aload_n (i := 18) (pc' := 31) rfl rfl rfl rfl ?_
      refine m_getf (i := 19) (pc' := 34) rfl rfl flX2_11 (sh73 G) rfl rfl ?_
      refine x_aload_n (i := 20) (pc' := 35) rfl rfl rfl rfl ?_
      refine x_iload_n (i := 21) (pc' := 36) rfl rfl rfl rfl ?_
      refine x_iload_n (i := 22) (pc' := 37) rfl rfl rfl rfl ?_
      refine m_callV (i := 23) (pc' := 40) (av := [_, _]) (rest := [_]) rfl rfl (by decide) lX2_27 (sh2 G) rfl rfl rfl rfl rfl (Nat.le_of_ble_eq_true rfl) (Nat.le_refl _) (Nat.le_refl _) (s_X3_differingParts hi2.2.1 (by omega) (by omega) ?_)
      dsimp only [psh]
      refine x_dup2 (i := 24) (pc' := 41) rfl rfl rfl rfl ?_
      refine m_iald (i := 25) (pc' := 42) rfl rfl (sh74 G) (by decide) ⟨by omega, by omega⟩ ?_
      refine x_iconst (i := 26) (pc' := 43) rfl rfl ?_
      refine x_iadd (i := 27) (pc' := 44) rfl rfl ?_
      refine m_iast (i := 28) (pc' := 45) rfl rfl (sh74 G) (by decide) ⟨by omega, by omega⟩ ?_
      refine x_iinc (L' := [some _, some _, some _, some _]) (i := 29) (pc' := 48) rfl rfl rfl rfl (by decide) rfl ?_
      refine x_goto (i := 30) (pc' := 22) rfl (by decide) ?_
      (first | exact hk2 | (refine AW.le ?_ hk2; simp [lvle]; done) | ((repeat' split at hk2) <;> first | exact hk2 | (refine AW.le ?_ hk2; simp [lvle]; done) | (exfalso; omega)))
    · have k3 := congrFun hi2.1.1 2
      refine x_iload_n (i := 14) (pc' := 23) rfl rfl rfl rfl ?_
      refine x_aload_n (i := 15) (pc' := 24) rfl rfl rfl rfl ?_
      refine m_getf (i := 16) (pc' := 27) rfl rfl flX2_21 (sh2 G) rfl rfl ?_
      refine x_icmpge (i := 17) (pc' := 30) (tgt := 51) rfl rfl (by decide) ⟨by omega, by omega⟩ ⟨by omega, by omega⟩ (fun f1 => ?_) (fun f1 => by exfalso; omega)
      refine x_iinc (L' := [some _, some _, some _, some _]) (i := 31) (pc' := 54) rfl rfl rfl rfl (by decide) rfl ?_
      refine x_goto (i := 32) (pc' := 10) rfl (by decide) ?_
      (unfold crw at hk; first | exact hk | (refine AW.le ?_ hk; simp [lvle]; done) | ((repeat' split at hk) <;> first | exact hk | (refine AW.le ?_ hk; simp [lvle]; done) | (exfalso; omega)))
  · have k3 := congrFun hi.1.1 2
    refine x_iload_n (i := 6) (pc' := 11) rfl rfl rfl rfl ?_
    refine x_aload_n (i := 7) (pc' := 12) rfl rfl rfl rfl ?_
    refine m_getf (i := 8) (pc' := 15) rfl rfl flX2_21 (sh2 G) rfl rfl ?_
    refine x_icmpge (i := 9) (pc' := 18) (tgt := 57) rfl rfl (by decide) ⟨by omega, by omega⟩ ⟨by omega, by omega⟩ (fun c1 => ?_) (fun c1 => by exfalso; omega)
    exact m_return (i := 33) rfl rfl (by rw [Int.sub_zero]; exact hQ)
theorem s_X2_minimalPairs {G : GG} {m : Mem} {Q : Option Value → Mem → Prop} {a : Int} (ha : rg a) (hQ : Q (some (.int (J (mpr m a)))) m) : CM G 0 mX2_minimalPairs [.ref (G.2.2.2 73), .int (J (a))] m Q := by
  refine CM.of dkX2_minimalPairs (Or.inl rfl) [some _, some _, none, none] rfl (Nat.le_of_ble_eq_true rfl) ?_
  refine x_iconst (i := 0) (pc' := 1) rfl rfl ?_
  refine x_istore_n (L' := [some _, some _, some _, none]) (i := 1) (pc' := 2) rfl rfl rfl rfl (by decide) rfl ?_
  refine x_iconst (i := 2) (pc' := 3) rfl rfl ?_
  refine x_istore_n (L' := [some _, some _, some _, some _]) (i := 3) (pc' := 4) rfl rfl rfl rfl (by decide) rfl ?_
  skip
  refine up_ind0 (P := fun (j : Int) (x : Int) => BW G 0 mX2_minimalPairs Q 4 [some (.ref (G.2.2.2 73)), some (.int (J (a))), some (.int (J (x))), some (.int (J (j)))] [] m) (fun (j : Int) (x : Int) => if a = -1 ∨ a = j then x + m 74 (1 * 2 ^ j.toNat) else x) (4) (0) (0) (by omega) (fun j x hj0 hj hk => ?_) ?_
  · have hpw := pw3 (j := j) (by omega)
    refine x_iload_n (i := 4) (pc' := 5) rfl rfl rfl rfl ?_
    refine x_iconst (i := 5) (pc' := 6) rfl rfl ?_
    refine x_icmpge (i := 6) (pc' := 9) (tgt := 36) rfl rfl (by decide) ⟨by omega, by omega⟩ ⟨by omega, by omega⟩ (fun c1 => by exfalso; omega) (fun c1 => ?_)
    refine x_iload_n (i := 7) (pc' := 10) rfl rfl rfl rfl ?_
    refine x_iconst (i := 8) (pc' := 11) rfl rfl ?_
    refine x_icmpeq (i := 9) (pc' := 14) (tgt := 19) rfl rfl (by decide) ⟨by omega, by omega⟩ ⟨by omega, by omega⟩ (fun c2 => ?_) (fun c2 => ?_)
    · skip
      refine x_iload_n (i := 13) (pc' := 20) rfl rfl rfl rfl ?_
      refine x_aload_n (i := 14) (pc' := 21) rfl rfl rfl rfl ?_
      refine m_getf (i := 15) (pc' := 24) rfl rfl flX2_11 (sh73 G) rfl rfl ?_
      refine x_iconst (i := 16) (pc' := 25) rfl rfl ?_
      refine x_iload_n (i := 17) (pc' := 26) rfl rfl rfl rfl ?_
      refine x_ishl (i := 18) (pc' := 27) rfl rfl (by omega) (by omega) ?_
      refine m_iald (i := 19) (pc' := 28) rfl rfl (sh74 G) (by decide) ⟨by omega, by omega⟩ ?_
      refine x_iadd (i := 20) (pc' := 29) rfl rfl ?_
      refine x_istore_n (L' := [some _, some _, some _, some _]) (i := 21) (pc' := 30) rfl rfl rfl rfl (by decide) rfl ?_
      refine x_iinc (L' := [some _, some _, some _, some _]) (i := 22) (pc' := 33) rfl rfl rfl rfl (by decide) rfl ?_
      refine x_goto (i := 23) (pc' := 4) rfl (by decide) ?_
      (first | exact hk | (refine AW.le ?_ hk; simp [lvle]; done) | ((repeat' split at hk) <;> first | exact hk | (refine AW.le ?_ hk; simp [lvle]; done) | (exfalso; omega)))
    · skip
      refine x_iload_n (i := 10) (pc' := 15) rfl rfl rfl rfl ?_
      refine x_iload_n (i := 11) (pc' := 16) rfl rfl rfl rfl ?_
      refine x_icmpne (i := 12) (pc' := 19) (tgt := 30) rfl rfl (by decide) ⟨by omega, by omega⟩ ⟨by omega, by omega⟩ (fun c3 => ?_) (fun c3 => ?_)
      · skip
        refine x_iinc (L' := [some _, some _, some _, some _]) (i := 22) (pc' := 33) rfl rfl rfl rfl (by decide) rfl ?_
        refine x_goto (i := 23) (pc' := 4) rfl (by decide) ?_
        (first | exact hk | (refine AW.le ?_ hk; simp [lvle]; done) | ((repeat' split at hk) <;> first | exact hk | (refine AW.le ?_ hk; simp [lvle]; done) | (exfalso; omega)))
      · skip
        refine x_iload_n (i := 13) (pc' := 20) rfl rfl rfl rfl ?_
        refine x_aload_n (i := 14) (pc' := 21) rfl rfl rfl rfl ?_
        refine m_getf (i := 15) (pc' := 24) rfl rfl flX2_11 (sh73 G) rfl rfl ?_
        refine x_iconst (i := 16) (pc' := 25) rfl rfl ?_
        refine x_iload_n (i := 17) (pc' := 26) rfl rfl rfl rfl ?_
        refine x_ishl (i := 18) (pc' := 27) rfl rfl (by omega) (by omega) ?_
        refine m_iald (i := 19) (pc' := 28) rfl rfl (sh74 G) (by decide) ⟨by omega, by omega⟩ ?_
        refine x_iadd (i := 20) (pc' := 29) rfl rfl ?_
        refine x_istore_n (L' := [some _, some _, some _, some _]) (i := 21) (pc' := 30) rfl rfl rfl rfl (by decide) rfl ?_
        refine x_iinc (L' := [some _, some _, some _, some _]) (i := 22) (pc' := 33) rfl rfl rfl rfl (by decide) rfl ?_
        refine x_goto (i := 23) (pc' := 4) rfl (by decide) ?_
        (first | exact hk | (refine AW.le ?_ hk; simp [lvle]; done) | ((repeat' split at hk) <;> first | exact hk | (refine AW.le ?_ hk; simp [lvle]; done) | (exfalso; omega)))
  · skip
    refine x_iload_n (i := 4) (pc' := 5) rfl rfl rfl rfl ?_
    refine x_iconst (i := 5) (pc' := 6) rfl rfl ?_
    refine x_icmpge (i := 6) (pc' := 9) (tgt := 36) rfl rfl (by decide) ⟨by omega, by omega⟩ ⟨by omega, by omega⟩ (fun c1 => ?_) (fun c1 => by exfalso; omega)
    refine x_iload_n (i := 24) (pc' := 37) rfl rfl rfl rfl ?_
    exact m_ireturn (i := 25) rfl rfl (hQ)
theorem s_X2_isSufficient {G : GG} {m : Mem} {Q : Option Value → Mem → Prop} {a : Int} (hM : MR m) (ha : 0 ≤ a ∧ a ≤ 15) (hQ : Q (some (.int (J (bp (suf m a))))) m) : CM G 0 mX2_isSufficient [.ref (G.2.2.2 73), .int (J (a))] m Q := by
  refine CM.of dkX2_isSufficient (Or.inl rfl) [some _, some _, none] rfl (Nat.le_of_ble_eq_true rfl) ?_
  refine x_iconst (i := 0) (pc' := 1) rfl rfl ?_
  refine x_istore_n (L' := [some _, some _, some _]) (i := 1) (pc' := 2) rfl rfl rfl rfl (by decide) rfl ?_
  skip
  refine all_ind (P := fun j => BW G 0 mX2_isSufficient Q 2 [some (.ref (G.2.2.2 73)), some (.int (J (a))), some (.int (J (j)))] [] m) (Z := fun r => Q (some (.int (J r))) m) (fun d => ¬ (0 < m 74 d ∧ ia d a = 0)) 16 0 (by omega) (fun hz => ?_) (fun j hj0 hj h1 h2 => ?_) hQ
  · skip
    refine x_iload_n (i := 2) (pc' := 3) rfl rfl rfl rfl ?_
    refine x_bipush (i := 3) (pc' := 5) rfl rfl (by decide) ?_
    refine x_icmpge (i := 4) (pc' := 8) (tgt := 31) rfl rfl (by decide) ⟨by omega, by omega⟩ ⟨by omega, by omega⟩ (fun c1 => ?_) (fun c1 => by exfalso; omega)
    refine x_iconst (i := 18) (pc' := 32) rfl rfl ?_
    exact m_zreturn (i := 19) rfl rfl (by omega) (hz)
  · have hl := ia_le j a; have hl2 := ia_nn j a
    refine x_iload_n (i := 2) (pc' := 3) rfl rfl rfl rfl ?_
    refine x_bipush (i := 3) (pc' := 5) rfl rfl (by decide) ?_
    refine x_icmpge (i := 4) (pc' := 8) (tgt := 31) rfl rfl (by decide) (by first | omega | exact hM _ _) (by first | omega | exact hM _ _) (fun c1 => by exfalso; omega) (fun c1 => ?_)
    refine x_aload_n (i := 5) (pc' := 9) rfl rfl rfl rfl ?_
    refine m_getf (i := 6) (pc' := 12) rfl rfl flX2_11 (sh73 G) rfl rfl ?_
    refine x_iload_n (i := 7) (pc' := 13) rfl rfl rfl rfl ?_
    refine m_iald (i := 8) (pc' := 14) rfl rfl (sh74 G) (by decide) ⟨by omega, by omega⟩ ?_
    refine x_ifle (i := 9) (pc' := 17) (tgt := 25) rfl rfl (by decide) (by first | omega | exact hM _ _) (fun c2 => ?_) (fun c2 => ?_)
    · skip
      refine x_iinc (L' := [some _, some _, some _]) (i := 16) (pc' := 28) rfl rfl rfl rfl (by decide) rfl ?_
      refine x_goto (i := 17) (pc' := 2) rfl (by decide) ?_
      exact h2 (by omega)
    · skip
      refine x_iload_n (i := 10) (pc' := 18) rfl rfl rfl rfl ?_
      refine x_iload_n (i := 11) (pc' := 19) rfl rfl rfl rfl ?_
      refine x_iand (i := 12) (pc' := 20) rfl rfl (by omega) (by omega) ?_
      refine x_ifne (i := 13) (pc' := 23) (tgt := 25) rfl rfl (by decide) (by first | omega | exact hM _ _) (fun c3 => ?_) (fun c3 => ?_)
      · skip
        refine x_iinc (L' := [some _, some _, some _]) (i := 16) (pc' := 28) rfl rfl rfl rfl (by decide) rfl ?_
        refine x_goto (i := 17) (pc' := 2) rfl (by decide) ?_
        exact h2 (by omega)
      · skip
        refine x_iconst (i := 14) (pc' := 24) rfl rfl ?_
        exact m_zreturn (i := 15) rfl rfl (by omega) (h1 (by omega))
theorem s_X2_leastSufficient {G : GG} {m : Mem} {Q : Option Value → Mem → Prop} (hM : MR m) (hQ : Q (some (.int (J (lsf m)))) m) : CM G 1 mX2_leastSufficient [.ref (G.2.2.2 73)] m Q := by
  refine CM.of dkX2_leastSufficient (Or.inl rfl) [some _, none, none] rfl (Nat.le_of_ble_eq_true rfl) ?_
  refine x_bipush (i := 0) (pc' := 2) rfl rfl (by decide) ?_
  refine x_istore_n (L' := [some _, some _, none]) (i := 1) (pc' := 3) rfl rfl rfl rfl (by decide) rfl ?_
  refine x_iconst (i := 2) (pc' := 4) rfl rfl ?_
  refine x_istore_n (L' := [some _, some _, some _]) (i := 3) (pc' := 5) rfl rfl rfl rfl (by decide) rfl ?_
  skip
  refine up_ind1 (P := fun (j : Int) (x : Int) => BW G 1 mX2_leastSufficient Q 5 [some (.ref (G.2.2.2 73)), some (.int (J (x))), some (.int (J (j)))] [] m) (fun (j : Int) (x : Int) => if pop j < pop x ∧ ¬ bp (suf m j) = 0 then j else x) (fun (j : Int) (x : Int) => 0 ≤ x ∧ x ≤ 15) (16) (0) (15) (by omega) (by omega) (fun j x hj0 hj hi => by split <;> omega) (fun j x hj0 hj hi hk => ?_) (fun hi => ?_)
  · have p1 := pop_le j; have p2 := pop_le x; have hb := bp_01 (suf m j)
    refine x_iload_n (i := 4) (pc' := 6) rfl rfl rfl rfl ?_
    refine x_bipush (i := 5) (pc' := 8) rfl rfl (by decide) ?_
    refine x_icmpge (i := 6) (pc' := 11) (tgt := 38) rfl rfl (by decide) ⟨by omega, by omega⟩ ⟨by omega, by omega⟩ (fun c1 => by exfalso; omega) (fun c1 => ?_)
    refine x_iload_n (i := 7) (pc' := 12) rfl rfl rfl rfl ?_
    refine m_callS (i := 8) (pc' := 15) (av := [_]) (rest := []) rfl rfl (by decide) lX2_31 rfl rfl (Nat.le_of_ble_eq_true rfl) (Nat.le_refl _) (Nat.le_refl _) (s_J6_bitCount_0f7a4 (by omega) ?_)
    dsimp only [psh]
    refine x_iload_n (i := 9) (pc' := 16) rfl rfl rfl rfl ?_
    refine m_callS (i := 10) (pc' := 19) (av := [_]) (rest := [_]) rfl rfl (by decide) lX2_31 rfl rfl (Nat.le_of_ble_eq_true rfl) (Nat.le_refl _) (Nat.le_refl _) (s_J6_bitCount_0f7a4 (by omega) ?_)
    dsimp only [psh]
    refine x_icmpge (i := 11) (pc' := 22) (tgt := 32) rfl rfl (by decide) ⟨by omega, by omega⟩ ⟨by omega, by omega⟩ (fun c2 => ?_) (fun c2 => ?_)
    · skip
      refine x_iinc (L' := [some _, some _, some _]) (i := 18) (pc' := 35) rfl rfl rfl rfl (by decide) rfl ?_
      refine x_goto (i := 19) (pc' := 5) rfl (by decide) ?_
      (first | exact hk | (refine AW.le ?_ hk; simp [lvle]; done) | ((repeat' split at hk) <;> first | exact hk | (refine AW.le ?_ hk; simp [lvle]; done) | (exfalso; omega)))
    · skip
      refine x_aload_n (i := 12) (pc' := 23) rfl rfl rfl rfl ?_
      refine x_iload_n (i := 13) (pc' := 24) rfl rfl rfl rfl ?_
      refine m_callV (i := 14) (pc' := 27) (av := [_]) (rest := []) rfl rfl (by decide) lX2_37 (sh73 G) rfl rfl rfl rfl rfl (Nat.le_of_ble_eq_true rfl) (Nat.le_refl _) (Nat.le_refl _) (s_X2_isSufficient hM (by omega) ?_)
      dsimp only [psh]
      refine x_ifeq (i := 15) (pc' := 30) (tgt := 32) rfl rfl (by decide) ⟨by omega, by omega⟩ (fun c3 => ?_) (fun c3 => ?_)
      · skip
        refine x_iinc (L' := [some _, some _, some _]) (i := 18) (pc' := 35) rfl rfl rfl rfl (by decide) rfl ?_
        refine x_goto (i := 19) (pc' := 5) rfl (by decide) ?_
        (first | exact hk | (refine AW.le ?_ hk; simp [lvle]; done) | ((repeat' split at hk) <;> first | exact hk | (refine AW.le ?_ hk; simp [lvle]; done) | (exfalso; omega)))
      · skip
        refine x_iload_n (i := 16) (pc' := 31) rfl rfl rfl rfl ?_
        refine x_istore_n (L' := [some _, some _, some _]) (i := 17) (pc' := 32) rfl rfl rfl rfl (by decide) rfl ?_
        refine x_iinc (L' := [some _, some _, some _]) (i := 18) (pc' := 35) rfl rfl rfl rfl (by decide) rfl ?_
        refine x_goto (i := 19) (pc' := 5) rfl (by decide) ?_
        (first | exact hk | (refine AW.le ?_ hk; simp [lvle]; done) | ((repeat' split at hk) <;> first | exact hk | (refine AW.le ?_ hk; simp [lvle]; done) | (exfalso; omega)))
  · skip
    refine x_iload_n (i := 4) (pc' := 6) rfl rfl rfl rfl ?_
    refine x_bipush (i := 5) (pc' := 8) rfl rfl (by decide) ?_
    refine x_icmpge (i := 6) (pc' := 11) (tgt := 38) rfl rfl (by decide) ⟨by omega, by omega⟩ ⟨by omega, by omega⟩ (fun c1 => ?_) (fun c1 => by exfalso; omega)
    refine x_iload_n (i := 20) (pc' := 39) rfl rfl rfl rfl ?_
    exact m_ireturn (i := 21) rfl rfl (hQ)
end
section
/-- the same signs, words and weights -/
def SX (m x : Mem) : Prop := SW m x ∧ x 4 = m 4
theorem SX.rf (m : Mem) : SX m m := ⟨SW.rf m, rfl⟩
theorem SX.st {m x : Mem} (h : SX m x) {q : Nat} (hq : (q ≠ 2 ∧ q ≠ 3 ∧ q ≠ 5 ∧ q ≠ 6) ∧ q ≠ 4) (k z : Int) : SX m (stm x q k z) := ⟨h.1.st hq.1 k z, by rw [stm_ne x k z (Ne.symm hq.2)]; exact h.2⟩
theorem SX.rvs {m x : Mem} (h : SX m x) (hv : RVs m) : RVs x := by unfold RVs RV; rw [h.1.1, h.1.2.1]; exact hv
theorem SX.wt {m x : Mem} (h : SX m x) (hw : WT m) : WT x := by unfold WT; rw [h.2]; exact hw
theorem SX.cn {m x : Mem} (h : SX m x) (hn : CN m) : CN x := by unfold CN; rw [h.1.1]; exact hn
theorem SX.fl {m : Mem} (q n : Nat) (v : Int) (h : q ≠ 2 ∧ q ≠ 3 ∧ q ≠ 4 ∧ q ≠ 5 ∧ q ≠ 6) : SX m (flm m q n v) := ⟨⟨flm_ne (Ne.symm h.1) _ _ _ _, flm_ne (Ne.symm h.2.1) _ _ _ _, flm_ne (Ne.symm h.2.2.2.1) _ _ _ _, flm_ne (Ne.symm h.2.2.2.2) _ _ _ _⟩, flm_ne (Ne.symm h.2.2.1) _ _ _ _⟩
def jn1 (a b k : Int) (x : Mem) : Mem := if x 71 k = b then stm x 71 k a else x
def jn (m : Mem) (a b n : Int) : Mem := it (fun k x => jn1 a b k x) 0 n.toNat m
def lbm (m : Mem) (n : Int) : Mem := it (fun k (x : Mem) => stm x 71 k k) 0 n.toNat m
def fj (d j k : Int) (x : Mem) : Mem := if ¬ x 71 j = x 71 k ∧ ds x j k ≤ d then jn x (x 71 j) (x 71 k) (x 2 2) else x
def frw (d n j : Int) (x : Mem) : Mem := it (fun k x => fj d j k x) (j + 1) (n - (j + 1)).toNat x
def fall (m : Mem) (d : Int) : Mem := it (fun j x => frw d (m 2 2) j x) 0 (m 2 2).toNat (lbm (flm m 72 16 0) (m 2 2))
def fsz (k : Int) (x : Mem) : Mem := stm x 72 (x 71 k) (x 72 (x 71 k) + 1)
def fdm (m : Mem) (d : Int) : Mem := it (fun k x => fsz k x) 0 (m 2 2).toNat (fall m d)
def FI (m : Mem) (x : Mem) : Prop := SX m x ∧ MR x ∧ (∀ k, 0 ≤ k → k < m 2 2 → 0 ≤ x 71 k ∧ x 71 k < m 2 2) ∧ x 72 = (flm m 72 16 0) 72
theorem jn1_I {m : Mem} {a b k : Int} {x : Mem} (ha : 0 ≤ a ∧ a < m 2 2) (ha2 : rg a) (h : FI m x) : FI m (jn1 a b k x) := by
  obtain ⟨h1, h2, h3, h4⟩ := h
  unfold jn1
  split
  · refine ⟨h1.st (by decide) _ _, h2.st ha2, fun i c1 c2 => ?_, (stm_ne x k a (by decide)).trans h4⟩
    by_cases hi : i = k
    · rw [hi, stm_eq]; exact ha
    · rw [stm_ix _ _ _ hi]; exact h3 i c1 c2
  · exact ⟨h1, h2, h3, h4⟩
theorem fj_I {m : Mem} (hn : CN m) {d j k : Int} {x : Mem} (hj : 0 ≤ j ∧ j < m 2 2) (h : FI m x) : FI m (fj d j k x) := by
  have h1 := hn.2
  have h2 := h.2.2.1 j hj.1 hj.2
  unfold fj
  split
  · exact it_I _ _ _ (fun i y _ _ hy => jn1_I h2 (by omega) hy) h
  · exact h
theorem frw_I {m : Mem} (hn : CN m) {d n j : Int} {x : Mem} (hj : 0 ≤ j ∧ j < m 2 2) (h : FI m x) : FI m (frw d n j x) := it_I _ _ _ (fun i y _ _ hy => fj_I hn hj hy) h
def LBI (m : Mem) (j : Int) (x : Mem) : Prop := SX m x ∧ MR x ∧ (∀ k, 0 ≤ k → k < j → x 71 k = k) ∧ x 72 = (flm m 72 16 0) 72
theorem lb_I {m : Mem} {j : Int} {x : Mem} (hj : 0 ≤ j ∧ j < 16) (h : LBI m j x) : LBI m (j + 1) (stm x 71 j j) := by
  obtain ⟨h1, h2, h3, h4⟩ := h
  refine ⟨h1.st (by decide) _ _, h2.st (by omega), fun i c1 c2 => ?_, (stm_ne x j j (by decide)).trans h4⟩
  by_cases hi : i = j
  · rw [hi, stm_eq]
  · rw [stm_ix _ _ _ hi]; exact h3 i c1 (by omega)
theorem lb_0 {m : Mem} (hM : MR m) : LBI m 0 (flm m 72 16 0) := ⟨SX.fl 72 16 0 (by decide), flm_MR (by decide) _ _ _ hM, fun k h1 h2 => by omega, rfl⟩
theorem lbm_I {m : Mem} (hM : MR m) (hn : CN m) : LBI m (m 2 2) (lbm (flm m 72 16 0) (m 2 2)) := by
  have h1 := hn.1; have h2 := hn.2
  have := it_Ij (f := fun k (x : Mem) => stm x 71 k k) (fun k x => LBI m k x) (m 2 2).toNat 0 (flm m 72 16 0) (fun i y a b c => lb_I (by omega) c) (lb_0 hM)
  rw [show (0 : Int) + ((m 2 2).toNat : Int) = m 2 2 by omega] at this
  exact this
theorem fall_0 {m : Mem} (hM : MR m) (hn : CN m) : FI m (lbm (flm m 72 16 0) (m 2 2)) := by
  obtain ⟨a1, a2, a3, a4⟩ := lbm_I hM hn
  exact ⟨a1, a2, fun k c1 c2 => by rw [a3 k c1 c2]; omega, a4⟩
theorem fall_I {m : Mem} (hM : MR m) (hn : CN m) (d : Int) : FI m (fall m d) := it_I _ _ _ (fun i y h1 h2 hy => frw_I hn (by have := hn.1; omega) hy) (fall_0 hM hn)
def FSI (m : Mem) (j : Int) (x : Mem) : Prop := SX m x ∧ MR x ∧ (∀ k, 0 ≤ k → k < m 2 2 → 0 ≤ x 71 k ∧ x 71 k < m 2 2) ∧ ∀ i, 0 ≤ i → i < 16 → 0 ≤ x 72 i ∧ x 72 i ≤ j
theorem fsz_I {m : Mem} (hn : CN m) {j : Int} {x : Mem} (hj : 0 ≤ j ∧ j < m 2 2) (h : FSI m j x) : FSI m (j + 1) (fsz j x) := by
  have g2 := hn.2
  obtain ⟨h1, h2, h3, h4⟩ := h
  have h5 := h3 j hj.1 hj.2
  have h6 := h4 (x 71 j) (by omega) (by omega)
  refine ⟨h1.st (by decide) _ _, h2.st (by omega), fun i c1 c2 => ?_, fun i c1 c2 => ?_⟩
  · unfold fsz; rw [stm_ne _ _ _ (by decide)]; exact h3 i c1 c2
  · have h7 := h4 i c1 c2
    unfold fsz
    by_cases hi : i = x 71 j
    · rw [hi, stm_eq]; omega
    · rw [stm_ix _ _ _ hi]; omega
theorem fs_0 {m : Mem} (hM : MR m) (hn : CN m) (d : Int) : FSI m 0 (fall m d) := by
  obtain ⟨a1, a2, a3, a4⟩ := fall_I hM hn d
  refine ⟨a1, a2, a3, fun i c1 c2 => ?_⟩
  rw [a4]
  have h9 := (fl_get (q := 72) (v := 0) 16 0 i m).1 (by omega)
  unfold flm
  omega
def nu (m : Mem) : Int := it (fun i x => if 0 < m 72 i then x + 1 else x) 0 16 0
def gre (m : Mem) : Int := it (fun i x => mx x (m 72 i)) 0 16 0
theorem s_X1_join {G : GG} {m : Mem} {Q : Option Value → Mem → Prop} {a b n : Int} (hM : MR m) (h1 : rg a) (h2 : rg b) (h3 : 0 ≤ n ∧ n ≤ 16) (hQ : Q none (jn m a b n)) : CM G 0 mX1_join [.ref (G.2.2.2 70), .int (J (a)), .int (J (b)), .int (J (n))] m Q := by
  refine CM.of dkX1_join (Or.inl rfl) [some _, some _, some _, some _, none] rfl (Nat.le_of_ble_eq_true rfl) ?_
  refine x_iconst (i := 0) (pc' := 1) rfl rfl ?_
  refine x_istore (L' := [some _, some _, some _, some _, some _]) (i := 1) (pc' := 3) rfl rfl rfl (by decide) rfl ?_
  skip
  refine up_ind1 (P := fun (j : Int) (x : Mem) => BW G 0 mX1_join Q 3 [some (.ref (G.2.2.2 70)), some (.int (J (a))), some (.int (J (b))), some (.int (J (n))), some (.int (J (j)))] [] x) (fun (j : Int) (x : Mem) => jn1 a b j x) (fun (j : Int) (x : Mem) => MR x) (n) (0) (m) (by omega) (hM) (fun j x hj0 hj hi => by (unfold jn1; split <;> first | exact hi.st h1 | exact hi)) (fun j x hj0 hj hi hk => ?_) (fun hi => ?_)
  · skip
    refine x_iload (i := 2) (pc' := 5) rfl rfl rfl ?_
    refine x_iload_n (i := 3) (pc' := 6) rfl rfl rfl rfl ?_
    refine x_icmpge (i := 4) (pc' := 9) (tgt := 34) rfl rfl (by decide) (by first | omega | exact hi _ _) (by first | omega | exact hi _ _) (fun c1 => by exfalso; omega) (fun c1 => ?_)
    refine x_aload_n (i := 5) (pc' := 10) rfl rfl rfl rfl ?_
    refine m_getf (i := 6) (pc' := 13) rfl rfl flX1_9 (sh70 G) rfl rfl ?_
    refine x_iload (i := 7) (pc' := 15) rfl rfl rfl ?_
    refine m_iald (i := 8) (pc' := 16) rfl rfl (sh71 G) (by decide) ⟨by omega, by omega⟩ ?_
    refine x_iload_n (i := 9) (pc' := 17) rfl rfl rfl rfl ?_
    refine x_icmpne (i := 10) (pc' := 20) (tgt := 28) rfl rfl (by decide) (by first | omega | exact hi _ _) (by first | omega | exact hi _ _) (fun c2 => ?_) (fun c2 => ?_)
    · skip
      refine x_iinc (L' := [some _, some _, some _, some _, some _]) (i := 16) (pc' := 31) rfl rfl rfl rfl (by decide) rfl ?_
      refine x_goto (i := 17) (pc' := 3) rfl (by decide) ?_
      (unfold jn1 at hk; first | exact hk | (refine AW.le ?_ hk; simp [lvle]; done) | ((repeat' split at hk) <;> first | exact hk | (refine AW.le ?_ hk; simp [lvle]; done) | (exfalso; omega)))
    · skip
      refine x_aload_n (i := 11) (pc' := 21) rfl rfl rfl rfl ?_
      refine m_getf (i := 12) (pc' := 24) rfl rfl flX1_9 (sh70 G) rfl rfl ?_
      refine x_iload (i := 13) (pc' := 26) rfl rfl rfl ?_
      refine x_iload_n (i := 14) (pc' := 27) rfl rfl rfl rfl ?_
      refine m_iast (i := 15) (pc' := 28) rfl rfl (sh71 G) (by decide) ⟨by omega, by omega⟩ ?_
      refine x_iinc (L' := [some _, some _, some _, some _, some _]) (i := 16) (pc' := 31) rfl rfl rfl rfl (by decide) rfl ?_
      refine x_goto (i := 17) (pc' := 3) rfl (by decide) ?_
      (unfold jn1 at hk; first | exact hk | (refine AW.le ?_ hk; simp [lvle]; done) | ((repeat' split at hk) <;> first | exact hk | (refine AW.le ?_ hk; simp [lvle]; done) | (exfalso; omega)))
  · skip
    refine x_iload (i := 2) (pc' := 5) rfl rfl rfl ?_
    refine x_iload_n (i := 3) (pc' := 6) rfl rfl rfl rfl ?_
    refine x_icmpge (i := 4) (pc' := 9) (tgt := 34) rfl rfl (by decide) ⟨by omega, by omega⟩ ⟨by omega, by omega⟩ (fun c1 => ?_) (fun c1 => by exfalso; omega)
    exact m_return (i := 18) rfl rfl (by rw [Int.sub_zero]; exact hQ)
theorem s_X1_find {G : GG} {m : Mem} {Q : Option Value → Mem → Prop} {d : Int} (hM : MR m) (hn : CN m) (hv : RVs m) (hw : WT m) (hd : rg d) (hQ : Q none (fdm m d)) : CM G 3 mX1_find [.ref (G.2.2.2 70), .ref (G.2.2.2 2), .int (J (d))] m Q := by
  refine CM.of dkX1_find (Or.inl rfl) [some _, some _, some _, none, none] rfl (Nat.le_of_ble_eq_true rfl) ?_
  have hn0 := hn.1; have hn1 := hn.2
  refine x_aload_n (i := 0) (pc' := 1) rfl rfl rfl rfl ?_
  refine m_getf (i := 1) (pc' := 4) rfl rfl flX1_15 (sh70 G) rfl rfl ?_
  refine x_iconst (i := 2) (pc' := 5) rfl rfl ?_
  refine m_callS (i := 3) (pc' := 8) (av := [_, _]) (rest := []) rfl rfl (by decide) lX1_18 rfl rfl (Nat.le_of_ble_eq_true rfl) (Nat.le_refl _) (Nat.le_refl _) (s_fill_72 ?_)
  dsimp only [psh]
  refine x_iconst (i := 4) (pc' := 9) rfl rfl ?_
  refine x_istore_n (L' := [some _, some _, some _, some _, none]) (i := 5) (pc' := 10) rfl rfl rfl rfl (by decide) rfl ?_
  skip
  refine up_ind1 (P := fun (j : Int) (x : Mem) => BW G 3 mX1_find Q 10 [some (.ref (G.2.2.2 70)), some (.ref (G.2.2.2 2)), some (.int (J (d))), some (.int (J (j))), none] [] x) (fun (j : Int) (x : Mem) => stm x 71 j j) (fun (j : Int) (x : Mem) => LBI m j x) (m 2 2) (0) (flm m 72 16 0) (by omega) (lb_0 hM) (fun j x hj0 hj hi => lb_I (by omega) hi) (fun j x hj0 hj hi hk => ?_) (fun hi => ?_)
  · have k3 := congrFun hi.1.1.1 2
    refine x_iload_n (i := 6) (pc' := 11) rfl rfl rfl rfl ?_
    refine x_aload_n (i := 7) (pc' := 12) rfl rfl rfl rfl ?_
    refine m_getf (i := 8) (pc' := 15) rfl rfl flX1_24 (sh2 G) rfl rfl ?_
    refine x_icmpge (i := 9) (pc' := 18) (tgt := 31) rfl rfl (by decide) ⟨by omega, by omega⟩ ⟨by omega, by omega⟩ (fun i1 => by exfalso; omega) (fun i1 => ?_)
    refine x_aload_n (i := 10) (pc' := 19) rfl rfl rfl rfl ?_
    refine m_getf (i := 11) (pc' := 22) rfl rfl flX1_9 (sh70 G) rfl rfl ?_
    refine x_iload_n (i := 12) (pc' := 23) rfl rfl rfl rfl ?_
    refine x_iload_n (i := 13) (pc' := 24) rfl rfl rfl rfl ?_
    refine m_iast (i := 14) (pc' := 25) rfl rfl (sh71 G) (by decide) ⟨by omega, by omega⟩ ?_
    refine x_iinc (L' := [some _, some _, some _, some _, none]) (i := 15) (pc' := 28) rfl rfl rfl rfl (by decide) rfl ?_
    refine x_goto (i := 16) (pc' := 10) rfl (by decide) ?_
    (first | exact hk | (refine AW.le ?_ hk; simp [lvle]; done) | ((repeat' split at hk) <;> first | exact hk | (refine AW.le ?_ hk; simp [lvle]; done) | (exfalso; omega)))
  · have k3 := congrFun hi.1.1.1 2
    refine x_iload_n (i := 6) (pc' := 11) rfl rfl rfl rfl ?_
    refine x_aload_n (i := 7) (pc' := 12) rfl rfl rfl rfl ?_
    refine m_getf (i := 8) (pc' := 15) rfl rfl flX1_24 (sh2 G) rfl rfl ?_
    refine x_icmpge (i := 9) (pc' := 18) (tgt := 31) rfl rfl (by decide) ⟨by omega, by omega⟩ ⟨by omega, by omega⟩ (fun j1 => ?_) (fun j1 => by exfalso; omega)
    refine x_iconst (i := 17) (pc' := 32) rfl rfl ?_
    refine x_istore_n (L' := [some _, some _, some _, some _, none]) (i := 18) (pc' := 33) rfl rfl rfl rfl (by decide) rfl ?_
    rw [Int.sub_zero]
    refine up_ind1 (P := fun (j : Int) (x : Mem) => BW G 3 mX1_find Q 33 [some (.ref (G.2.2.2 70)), some (.ref (G.2.2.2 2)), some (.int (J (d))), some (.int (J (j))), none] [] x) (fun (j : Int) (x : Mem) => frw d (m 2 2) j x) (fun (j : Int) (x : Mem) => FI m x) (m 2 2) (0) (lbm (flm m 72 16 0) (m 2 2)) (by omega) (fall_0 hM hn) (fun j x hj0 hj hi => frw_I hn (by omega) hi) (fun j x hj0 hj hi hk => ?_) (fun hi => ?_)
    · have k3 := congrFun hi.1.1.1 2
      refine x_iload_n (i := 19) (pc' := 34) rfl rfl rfl rfl ?_
      refine x_aload_n (i := 20) (pc' := 35) rfl rfl rfl rfl ?_
      refine m_getf (i := 21) (pc' := 38) rfl rfl flX1_24 (sh2 G) rfl rfl ?_
      refine x_icmpge (i := 22) (pc' := 41) (tgt := 115) rfl rfl (by decide) ⟨by omega, by omega⟩ ⟨by omega, by omega⟩ (fun g1 => by exfalso; omega) (fun g1 => ?_)
      refine x_iload_n (i := 23) (pc' := 42) rfl rfl rfl rfl ?_
      refine x_iconst (i := 24) (pc' := 43) rfl rfl ?_
      refine x_iadd (i := 25) (pc' := 44) rfl rfl ?_
      refine x_istore (L' := [some _, some _, some _, some _, some _]) (i := 26) (pc' := 46) rfl rfl rfl (by decide) rfl ?_
      refine up_ind1 (P := fun (k : Int) (y : Mem) => BW G 3 mX1_find Q 46 [some (.ref (G.2.2.2 70)), some (.ref (G.2.2.2 2)), some (.int (J (d))), some (.int (J (j))), some (.int (J (k)))] [] y) (fun (k : Int) (y : Mem) => fj d j k y) (fun (k : Int) (y : Mem) => FI m y) (m 2 2) (j + 1) (x) (by omega) (hi) (fun k y hj02 hj2 hi2 => fj_I hn (by omega) hi2) (fun k y hj02 hj2 hi2 hk2 => ?_) (fun hi2 => ?_)
      · obtain ⟨g1, g2, g3, g4⟩ := hi2
        have k3 := congrFun g1.1.1 2
        have v1 := g1.rvs hv; have v2 := g1.wt hw
        have u1 := v1 j (by omega) (by omega); have u2 := v1 k (by omega) (by omega)
        have hdd := ds_le u1 u2 v2
        have g5 := g3 j (by omega) (by omega); have g6 := g3 k (by omega) (by omega)
        refine x_iload (i := 27) (pc' := 48) rfl rfl rfl ?_
        refine x_aload_n (i := 28) (pc' := 49) rfl rfl rfl rfl ?_
        refine m_getf (i := 29) (pc' := 52) rfl rfl flX1_24 (sh2 G) rfl rfl ?_
        refine x_icmpge (i := 30) (pc' := 55) (tgt := 109) rfl rfl (by decide) ⟨by omega, by omega⟩ ⟨by omega, by omega⟩ (fun e1 => by exfalso; omega) (fun e1 => ?_)
        refine x_aload_n (i := 31) (pc' := 56) rfl rfl rfl rfl ?_
        refine m_getf (i := 32) (pc' := 59) rfl rfl flX1_9 (sh70 G) rfl rfl ?_
        refine x_iload_n (i := 33) (pc' := 60) rfl rfl rfl rfl ?_
        refine m_iald (i := 34) (pc' := 61) rfl rfl (sh71 G) (by decide) ⟨by omega, by omega⟩ ?_
        refine x_aload_n (i := 35) (pc' := 62) rfl rfl rfl rfl ?_
        refine m_getf (i := 36) (pc' := 65) rfl rfl flX1_9 (sh70 G) rfl rfl ?_
        refine x_iload (i := 37) (pc' := 67) rfl rfl rfl ?_
        refine m_iald (i := 38) (pc' := 68) rfl rfl (sh71 G) (by decide) ⟨by omega, by omega⟩ ?_
        refine x_icmpeq (i := 39) (pc' := 71) (tgt := 103) rfl rfl (by decide) ⟨by omega, by omega⟩ ⟨by omega, by omega⟩ (fun e2 => ?_) (fun e2 => ?_)
        · skip
          refine x_iinc (L' := [some _, some _, some _, some _, some _]) (i := 58) (pc' := 106) rfl rfl rfl rfl (by decide) rfl ?_
          refine x_goto (i := 59) (pc' := 46) rfl (by decide) ?_
          (unfold fj at hk2; first | exact hk2 | (refine AW.le ?_ hk2; simp [lvle]; done) | ((repeat' split at hk2) <;> first | exact hk2 | (refine AW.le ?_ hk2; simp [lvle]; done) | (exfalso; omega)))
        · skip
          refine x_aload_n (i := 40) (pc' := 72) rfl rfl rfl rfl ?_
          refine x_iload_n (i := 41) (pc' := 73) rfl rfl rfl rfl ?_
          refine x_iload (i := 42) (pc' := 75) rfl rfl rfl ?_
          refine m_callV (i := 43) (pc' := 78) (av := [_, _]) (rest := []) rfl rfl (by decide) lX1_30 (sh2 G) rfl rfl rfl rfl rfl (Nat.le_of_ble_eq_true rfl) (Nat.le_refl _) (Nat.le_refl _) (s_X3_distance (by omega) (by omega) u1 u2 ?_)
          dsimp only [psh]
          refine x_iload_n (i := 44) (pc' := 79) rfl rfl rfl rfl ?_
          refine x_icmpgt (i := 45) (pc' := 82) (tgt := 103) rfl rfl (by decide) ⟨by omega, by omega⟩ ⟨by omega, by omega⟩ (fun e3 => ?_) (fun e3 => ?_)
          · skip
            refine x_iinc (L' := [some _, some _, some _, some _, some _]) (i := 58) (pc' := 106) rfl rfl rfl rfl (by decide) rfl ?_
            refine x_goto (i := 59) (pc' := 46) rfl (by decide) ?_
            (unfold fj at hk2; first | exact hk2 | (refine AW.le ?_ hk2; simp [lvle]; done) | ((repeat' split at hk2) <;> first | exact hk2 | (refine AW.le ?_ hk2; simp [lvle]; done) | (exfalso; omega)))
          · skip
            refine x_aload_n (i := 46) (pc' := 83) rfl rfl rfl rfl ?_
            refine x_aload_n (i := 47) (pc' := 84) rfl rfl rfl rfl ?_
            refine m_getf (i := 48) (pc' := 87) rfl rfl flX1_9 (sh70 G) rfl rfl ?_
            refine x_iload_n (i := 49) (pc' := 88) rfl rfl rfl rfl ?_
            refine m_iald (i := 50) (pc' := 89) rfl rfl (sh71 G) (by decide) ⟨by omega, by omega⟩ ?_
            refine x_aload_n (i := 51) (pc' := 90) rfl rfl rfl rfl ?_
            refine m_getf (i := 52) (pc' := 93) rfl rfl flX1_9 (sh70 G) rfl rfl ?_
            refine x_iload (i := 53) (pc' := 95) rfl rfl rfl ?_
            refine m_iald (i := 54) (pc' := 96) rfl rfl (sh71 G) (by decide) ⟨by omega, by omega⟩ ?_
            refine x_aload_n (i := 55) (pc' := 97) rfl rfl rfl rfl ?_
            refine m_getf (i := 56) (pc' := 100) rfl rfl flX1_24 (sh2 G) rfl rfl ?_
            refine m_callV (i := 57) (pc' := 103) (av := [_, _, _]) (rest := []) rfl rfl (by decide) lX1_34 (sh70 G) rfl rfl rfl rfl rfl (Nat.le_of_ble_eq_true rfl) (Nat.le_refl _) (Nat.le_refl _) (s_X1_join g2 (by omega) (by omega) (by omega) ?_)
            dsimp only [psh]
            refine x_iinc (L' := [some _, some _, some _, some _, some _]) (i := 58) (pc' := 106) rfl rfl rfl rfl (by decide) rfl ?_
            refine x_goto (i := 59) (pc' := 46) rfl (by decide) ?_
            (unfold fj at hk2; first | exact hk2 | (refine AW.le ?_ hk2; simp [lvle]; done) | ((repeat' split at hk2) <;> first | exact hk2 | (refine AW.le ?_ hk2; simp [lvle]; done) | (exfalso; omega)))
      · have k3 := congrFun hi2.1.1.1 2
        refine x_iload (i := 27) (pc' := 48) rfl rfl rfl ?_
        refine x_aload_n (i := 28) (pc' := 49) rfl rfl rfl rfl ?_
        refine m_getf (i := 29) (pc' := 52) rfl rfl flX1_24 (sh2 G) rfl rfl ?_
        refine x_icmpge (i := 30) (pc' := 55) (tgt := 109) rfl rfl (by decide) ⟨by omega, by omega⟩ ⟨by omega, by omega⟩ (fun f1 => ?_) (fun f1 => by exfalso; omega)
        refine x_iinc (L' := [some _, some _, some _, some _, some _]) (i := 60) (pc' := 112) rfl rfl rfl rfl (by decide) rfl ?_
        refine x_goto (i := 61) (pc' := 33) rfl (by decide) ?_
        (unfold frw at hk; first | exact hk | (refine AW.le ?_ hk; simp [lvle]; done) | ((repeat' split at hk) <;> first | exact hk | (refine AW.le ?_ hk; simp [lvle]; done) | (exfalso; omega)))
    · have k3 := congrFun hi.1.1.1 2
      refine x_iload_n (i := 19) (pc' := 34) rfl rfl rfl rfl ?_
      refine x_aload_n (i := 20) (pc' := 35) rfl rfl rfl rfl ?_
      refine m_getf (i := 21) (pc' := 38) rfl rfl flX1_24 (sh2 G) rfl rfl ?_
      refine x_icmpge (i := 22) (pc' := 41) (tgt := 115) rfl rfl (by decide) ⟨by omega, by omega⟩ ⟨by omega, by omega⟩ (fun h1 => ?_) (fun h1 => by exfalso; omega)
      refine x_iconst (i := 62) (pc' := 116) rfl rfl ?_
      refine x_istore_n (L' := [some _, some _, some _, some _, none]) (i := 63) (pc' := 117) rfl rfl rfl rfl (by decide) rfl ?_
      rw [Int.sub_zero]
      refine up_ind1 (P := fun (j : Int) (x : Mem) => BW G 3 mX1_find Q 117 [some (.ref (G.2.2.2 70)), some (.ref (G.2.2.2 2)), some (.int (J (d))), some (.int (J (j))), none] [] x) (fun (j : Int) (x : Mem) => fsz j x) (fun (j : Int) (x : Mem) => FSI m j x) (m 2 2) (0) (fall m d) (by omega) (fs_0 hM hn d) (fun j x hj0 hj hi => fsz_I hn (by omega) hi) (fun j x hj0 hj hi hk => ?_) (fun hi => ?_)
      · obtain ⟨g1, g2, g3, g4⟩ := hi
        have k3 := congrFun g1.1.1 2
        have g5 := g3 j (by omega) (by omega)
        refine x_iload_n (i := 64) (pc' := 118) rfl rfl rfl rfl ?_
        refine x_aload_n (i := 65) (pc' := 119) rfl rfl rfl rfl ?_
        refine m_getf (i := 66) (pc' := 122) rfl rfl flX1_24 (sh2 G) rfl rfl ?_
        refine x_icmpge (i := 67) (pc' := 125) (tgt := 146) rfl rfl (by decide) ⟨by omega, by omega⟩ ⟨by omega, by omega⟩ (fun s1 => by exfalso; omega) (fun s1 => ?_)
        refine x_aload_n (i := 68) (pc' := 126) rfl rfl rfl rfl ?_
        refine m_getf (i := 69) (pc' := 129) rfl rfl flX1_15 (sh70 G) rfl rfl ?_
        refine x_aload_n (i := 70) (pc' := 130) rfl rfl rfl rfl ?_
        refine m_getf (i := 71) (pc' := 133) rfl rfl flX1_9 (sh70 G) rfl rfl ?_
        refine x_iload_n (i := 72) (pc' := 134) rfl rfl rfl rfl ?_
        refine m_iald (i := 73) (pc' := 135) rfl rfl (sh71 G) (by decide) ⟨by omega, by omega⟩ ?_
        refine x_dup2 (i := 74) (pc' := 136) rfl rfl rfl rfl ?_
        refine m_iald (i := 75) (pc' := 137) rfl rfl (sh72 G) (by decide) ⟨by omega, by omega⟩ ?_
        refine x_iconst (i := 76) (pc' := 138) rfl rfl ?_
        refine x_iadd (i := 77) (pc' := 139) rfl rfl ?_
        refine m_iast (i := 78) (pc' := 140) rfl rfl (sh72 G) (by decide) ⟨by omega, by omega⟩ ?_
        refine x_iinc (L' := [some _, some _, some _, some _, none]) (i := 79) (pc' := 143) rfl rfl rfl rfl (by decide) rfl ?_
        refine x_goto (i := 80) (pc' := 117) rfl (by decide) ?_
        (unfold fsz at hk; first | exact hk | (refine AW.le ?_ hk; simp [lvle]; done) | ((repeat' split at hk) <;> first | exact hk | (refine AW.le ?_ hk; simp [lvle]; done) | (exfalso; omega)))
      · have k3 := congrFun hi.1.1.1 2
        refine x_iload_n (i := 64) (pc' := 118) rfl rfl rfl rfl ?_
        refine x_aload_n (i := 65) (pc' := 119) rfl rfl rfl rfl ?_
        refine m_getf (i := 66) (pc' := 122) rfl rfl flX1_24 (sh2 G) rfl rfl ?_
        refine x_icmpge (i := 67) (pc' := 125) (tgt := 146) rfl rfl (by decide) ⟨by omega, by omega⟩ ⟨by omega, by omega⟩ (fun t1 => ?_) (fun t1 => by exfalso; omega)
        exact m_return (i := 81) rfl rfl (by rw [Int.sub_zero]; exact hQ)
theorem s_X1_number {G : GG} {m : Mem} {Q : Option Value → Mem → Prop} (hM : MR m) (hQ : Q (some (.int (J (nu m)))) m) : CM G 0 mX1_number [.ref (G.2.2.2 70)] m Q := by
  refine CM.of dkX1_number (Or.inl rfl) [some _, none, none, none, none, none] rfl (Nat.le_of_ble_eq_true rfl) ?_
  refine x_iconst (i := 0) (pc' := 1) rfl rfl ?_
  refine x_istore_n (L' := [some _, some _, none, none, none, none]) (i := 1) (pc' := 2) rfl rfl rfl rfl (by decide) rfl ?_
  refine x_aload_n (i := 2) (pc' := 3) rfl rfl rfl rfl ?_
  refine m_getf (i := 3) (pc' := 6) rfl rfl flX1_15 (sh70 G) rfl rfl ?_
  refine x_astore_n (L' := [some _, some _, some _, none, none, none]) (i := 4) (pc' := 7) rfl rfl rfl rfl (by decide) rfl ?_
  refine x_aload_n (i := 5) (pc' := 8) rfl rfl rfl rfl ?_
  refine m_alen (i := 6) (pc' := 9) rfl rfl (sh72 G) ?_
  refine x_istore_n (L' := [some _, some _, some _, some _, none, none]) (i := 7) (pc' := 10) rfl rfl rfl rfl (by decide) rfl ?_
  refine x_iconst (i := 8) (pc' := 11) rfl rfl ?_
  refine x_istore (L' := [some _, some _, some _, some _, some _, none]) (i := 9) (pc' := 13) rfl rfl rfl (by decide) rfl ?_
  skip
  refine up_ind1 (P := fun (j : Int) (x : Int) => BW G 0 mX1_number Q 13 [some (.ref (G.2.2.2 70)), some (.int (J (x))), some (.ref (G.2.2.2 72)), some (.int (J (((16 : Nat) : Int)))), some (.int (J (j))), none] [] m) (fun (j : Int) (x : Int) => if 0 < m 72 j then x + 1 else x) (fun (j : Int) (x : Int) => 0 ≤ x ∧ x ≤ j) (16) (0) (0) (by omega) (by omega) (fun j x hj0 hj hi => by (split <;> omega)) (fun j x hj0 hj hi hk => ?_) (fun hi => ?_)
  · skip
    refine x_iload (i := 10) (pc' := 15) rfl rfl rfl ?_
    refine x_iload_n (i := 11) (pc' := 16) rfl rfl rfl rfl ?_
    refine x_icmpge (i := 12) (pc' := 19) (tgt := 39) rfl rfl (by decide) (by first | omega | exact hM _ _) (by first | omega | exact hM _ _) (fun c1 => by exfalso; omega) (fun c1 => ?_)
    refine x_aload_n (i := 13) (pc' := 20) rfl rfl rfl rfl ?_
    refine x_iload (i := 14) (pc' := 22) rfl rfl rfl ?_
    refine m_iald (i := 15) (pc' := 23) rfl rfl (sh72 G) (by decide) ⟨by omega, by omega⟩ ?_
    refine x_istore (L' := [some _, some _, some _, some _, some _, some _]) (i := 16) (pc' := 25) rfl rfl rfl (by decide) rfl ?_
    refine x_iload (i := 17) (pc' := 27) rfl rfl rfl ?_
    refine x_ifle (i := 18) (pc' := 30) (tgt := 33) rfl rfl (by decide) (by first | omega | exact hM _ _) (fun c2 => ?_) (fun c2 => ?_)
    · skip
      refine x_iinc (L' := [some _, some _, some _, some _, some _, some _]) (i := 20) (pc' := 36) rfl rfl rfl rfl (by decide) rfl ?_
      refine x_goto (i := 21) (pc' := 13) rfl (by decide) ?_
      (first | exact hk | (refine AW.le ?_ hk; simp [lvle]; done) | ((repeat' split at hk) <;> first | exact hk | (refine AW.le ?_ hk; simp [lvle]; done) | (exfalso; omega)))
    · skip
      refine x_iinc (L' := [some _, some _, some _, some _, some _, some _]) (i := 19) (pc' := 33) rfl rfl rfl rfl (by decide) rfl ?_
      refine x_iinc (L' := [some _, some _, some _, some _, some _, some _]) (i := 20) (pc' := 36) rfl rfl rfl rfl (by decide) rfl ?_
      refine x_goto (i := 21) (pc' := 13) rfl (by decide) ?_
      (first | exact hk | (refine AW.le ?_ hk; simp [lvle]; done) | ((repeat' split at hk) <;> first | exact hk | (refine AW.le ?_ hk; simp [lvle]; done) | (exfalso; omega)))
  · skip
    refine x_iload (i := 10) (pc' := 15) rfl rfl rfl ?_
    refine x_iload_n (i := 11) (pc' := 16) rfl rfl rfl rfl ?_
    refine x_icmpge (i := 12) (pc' := 19) (tgt := 39) rfl rfl (by decide) ⟨by omega, by omega⟩ ⟨by omega, by omega⟩ (fun c1 => ?_) (fun c1 => by exfalso; omega)
    refine x_iload_n (i := 22) (pc' := 40) rfl rfl rfl rfl ?_
    exact m_ireturn (i := 23) rfl rfl (hQ)
theorem s_X1_greatest {G : GG} {m : Mem} {Q : Option Value → Mem → Prop} (hM : MR m) (hQ : Q (some (.int (J (gre m)))) m) : CM G 1 mX1_greatest [.ref (G.2.2.2 70)] m Q := by
  refine CM.of dkX1_greatest (Or.inl rfl) [some _, none, none, none, none, none] rfl (Nat.le_of_ble_eq_true rfl) ?_
  refine x_iconst (i := 0) (pc' := 1) rfl rfl ?_
  refine x_istore_n (L' := [some _, some _, none, none, none, none]) (i := 1) (pc' := 2) rfl rfl rfl rfl (by decide) rfl ?_
  refine x_aload_n (i := 2) (pc' := 3) rfl rfl rfl rfl ?_
  refine m_getf (i := 3) (pc' := 6) rfl rfl flX1_15 (sh70 G) rfl rfl ?_
  refine x_astore_n (L' := [some _, some _, some _, none, none, none]) (i := 4) (pc' := 7) rfl rfl rfl rfl (by decide) rfl ?_
  refine x_aload_n (i := 5) (pc' := 8) rfl rfl rfl rfl ?_
  refine m_alen (i := 6) (pc' := 9) rfl rfl (sh72 G) ?_
  refine x_istore_n (L' := [some _, some _, some _, some _, none, none]) (i := 7) (pc' := 10) rfl rfl rfl rfl (by decide) rfl ?_
  refine x_iconst (i := 8) (pc' := 11) rfl rfl ?_
  refine x_istore (L' := [some _, some _, some _, some _, some _, none]) (i := 9) (pc' := 13) rfl rfl rfl (by decide) rfl ?_
  skip
  refine up_ind1 (P := fun (j : Int) (x : Int) => BW G 1 mX1_greatest Q 13 [some (.ref (G.2.2.2 70)), some (.int (J (x))), some (.ref (G.2.2.2 72)), some (.int (J (((16 : Nat) : Int)))), some (.int (J (j))), none] [] m) (fun (j : Int) (x : Int) => mx x (m 72 j)) (fun (j : Int) (x : Int) => rg x) (16) (0) (0) (by omega) (by omega) (fun j x hj0 hj hi => by (unfold mx; split <;> first | exact hM _ _ | exact hi)) (fun j x hj0 hj hi hk => ?_) (fun hi => ?_)
  · skip
    refine x_iload (i := 10) (pc' := 15) rfl rfl rfl ?_
    refine x_iload_n (i := 11) (pc' := 16) rfl rfl rfl rfl ?_
    refine x_icmpge (i := 12) (pc' := 19) (tgt := 38) rfl rfl (by decide) (by first | omega | exact hM _ _) (by first | omega | exact hM _ _) (fun c1 => by exfalso; omega) (fun c1 => ?_)
    refine x_aload_n (i := 13) (pc' := 20) rfl rfl rfl rfl ?_
    refine x_iload (i := 14) (pc' := 22) rfl rfl rfl ?_
    refine m_iald (i := 15) (pc' := 23) rfl rfl (sh72 G) (by decide) ⟨by omega, by omega⟩ ?_
    refine x_istore (L' := [some _, some _, some _, some _, some _, some _]) (i := 16) (pc' := 25) rfl rfl rfl (by decide) rfl ?_
    refine x_iload_n (i := 17) (pc' := 26) rfl rfl rfl rfl ?_
    refine x_iload (i := 18) (pc' := 28) rfl rfl rfl ?_
    refine m_callS (i := 19) (pc' := 31) (av := [_, _]) (rest := []) rfl rfl (by decide) lX1_38 rfl rfl (Nat.le_of_ble_eq_true rfl) (Nat.le_refl _) (Nat.le_refl _) (s_J9_max_7cf53 (by first | omega | exact hM _ _) (by first | omega | exact hM _ _) ?_)
    dsimp only [psh]
    refine x_istore_n (L' := [some _, some _, some _, some _, some _, some _]) (i := 20) (pc' := 32) rfl rfl rfl rfl (by decide) rfl ?_
    refine x_iinc (L' := [some _, some _, some _, some _, some _, some _]) (i := 21) (pc' := 35) rfl rfl rfl rfl (by decide) rfl ?_
    refine x_goto (i := 22) (pc' := 13) rfl (by decide) ?_
    (first | exact hk | (refine AW.le ?_ hk; simp [lvle]; done) | ((repeat' split at hk) <;> first | exact hk | (refine AW.le ?_ hk; simp [lvle]; done) | (exfalso; omega)))
  · skip
    refine x_iload (i := 10) (pc' := 15) rfl rfl rfl ?_
    refine x_iload_n (i := 11) (pc' := 16) rfl rfl rfl rfl ?_
    refine x_icmpge (i := 12) (pc' := 19) (tgt := 38) rfl rfl (by decide) ⟨by omega, by omega⟩ ⟨by omega, by omega⟩ (fun c1 => ?_) (fun c1 => by exfalso; omega)
    refine x_iload_n (i := 23) (pc' := 39) rfl rfl rfl rfl ?_
    exact m_ireturn (i := 24) rfl rfl (hQ)
end
