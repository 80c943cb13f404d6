-- ===== PART A: goes FIRST, ahead of the names: the tables' words, and 'selects' of the private methods out of them =====
/-- a private method of a class that the tables say can be made, by its rows of tables_1 -/
def lw_okq (q : MethodName × Nat) : Prop := (q.1.cls ≠ "java/lang/invoke/MethodHandle" ∧ q.1.cls ≠ "java/lang/invoke/VarHandle") ∧ Cond.instantiable q.1.cls q.2 ∈ tables_1 ∧ Cond.privateMethod q.1 ∈ tables_1 ∧ Cond.instanceMethod q.1 ∈ tables_1
theorem lw_p0 : lw_okq (⟨"FlipBoard$Reader", "takes", "(I)Z"⟩, 5) := ⟨⟨by decide +kernel, by decide +kernel⟩, List.mem_of_getElem? (i := 194) (by decide +kernel), List.mem_of_getElem? (i := 404) (by decide +kernel), List.mem_of_getElem? (i := 405) (by decide +kernel)⟩
theorem lw_p1 : lw_okq (⟨"FlipBoard$Reader", "takesStart", "(I)Z"⟩, 5) := ⟨⟨by decide +kernel, by decide +kernel⟩, List.mem_of_getElem? (i := 194) (by decide +kernel), List.mem_of_getElem? (i := 408) (by decide +kernel), List.mem_of_getElem? (i := 409) (by decide +kernel)⟩
theorem lw_p2 : lw_okq (⟨"FlipBoard$Reader", "takesEqualsSign", "(I)Z"⟩, 5) := ⟨⟨by decide +kernel, by decide +kernel⟩, List.mem_of_getElem? (i := 194) (by decide +kernel), List.mem_of_getElem? (i := 420) (by decide +kernel), List.mem_of_getElem? (i := 421) (by decide +kernel)⟩
theorem lw_p3 : lw_okq (⟨"FlipBoard$Reader", "takesFirstDigit", "(I)Z"⟩, 5) := ⟨⟨by decide +kernel, by decide +kernel⟩, List.mem_of_getElem? (i := 194) (by decide +kernel), List.mem_of_getElem? (i := 424) (by decide +kernel), List.mem_of_getElem? (i := 425) (by decide +kernel)⟩
theorem lw_p4 : lw_okq (⟨"FlipBoard$Reader", "endItem", "()V"⟩, 5) := ⟨⟨by decide +kernel, by decide +kernel⟩, List.mem_of_getElem? (i := 194) (by decide +kernel), List.mem_of_getElem? (i := 429) (by decide +kernel), List.mem_of_getElem? (i := 430) (by decide +kernel)⟩
theorem lw_p5 : lw_okq (⟨"FlipBoard$Reader", "takesSecondDigit", "(I)Z"⟩, 5) := ⟨⟨by decide +kernel, by decide +kernel⟩, List.mem_of_getElem? (i := 194) (by decide +kernel), List.mem_of_getElem? (i := 436) (by decide +kernel), List.mem_of_getElem? (i := 437) (by decide +kernel)⟩
theorem lw_p6 : lw_okq (⟨"FlipBoard$Reader", "takesCharacter", "(I)Z"⟩, 5) := ⟨⟨by decide +kernel, by decide +kernel⟩, List.mem_of_getElem? (i := 194) (by decide +kernel), List.mem_of_getElem? (i := 441) (by decide +kernel), List.mem_of_getElem? (i := 442) (by decide +kernel)⟩
theorem lw_p7 : lw_okq (⟨"FlipBoard", "canShow", "(II)Z"⟩, 9) := ⟨⟨by decide +kernel, by decide +kernel⟩, List.mem_of_getElem? (i := 17) (by decide +kernel), List.mem_of_getElem? (i := 452) (by decide +kernel), List.mem_of_getElem? (i := 453) (by decide +kernel)⟩
theorem lw_p8 : lw_okq (⟨"FlipBoard$Flipper", "arrange", "(LFlipBoard$Dots;I)V"⟩, 1) := ⟨⟨by decide +kernel, by decide +kernel⟩, List.mem_of_getElem? (i := 184) (by decide +kernel), List.mem_of_getElem? (i := 560) (by decide +kernel), List.mem_of_getElem? (i := 561) (by decide +kernel)⟩
theorem lw_p9 : lw_okq (⟨"FlipBoard$Flipper", "arrangeByDueDots", "(LFlipBoard$Dots;)V"⟩, 1) := ⟨⟨by decide +kernel, by decide +kernel⟩, List.mem_of_getElem? (i := 184) (by decide +kernel), List.mem_of_getElem? (i := 564) (by decide +kernel), List.mem_of_getElem? (i := 565) (by decide +kernel)⟩
theorem lw_p10 : lw_okq (⟨"FlipBoard$Flipper", "flipColumn", "(LFlipBoard$State;II)I"⟩, 1) := ⟨⟨by decide +kernel, by decide +kernel⟩, List.mem_of_getElem? (i := 184) (by decide +kernel), List.mem_of_getElem? (i := 573) (by decide +kernel), List.mem_of_getElem? (i := 574) (by decide +kernel)⟩
theorem lw_p11 : lw_okq (⟨"FlipBoard", "isSetToOrder", "(I)Z"⟩, 9) := ⟨⟨by decide +kernel, by decide +kernel⟩, List.mem_of_getElem? (i := 17) (by decide +kernel), List.mem_of_getElem? (i := 677) (by decide +kernel), List.mem_of_getElem? (i := 678) (by decide +kernel)⟩
theorem lw_p12 : lw_okq (⟨"FlipBoard$Orders", "gather", "(LFlipBoard$State;ILFlipBoard$Painter;)V"⟩, 5) := ⟨⟨by decide +kernel, by decide +kernel⟩, List.mem_of_getElem? (i := 220) (by decide +kernel), List.mem_of_getElem? (i := 686) (by decide +kernel), List.mem_of_getElem? (i := 687) (by decide +kernel)⟩
theorem lw_p13 : lw_okq (⟨"FlipBoard$Orders", "measure", "(LFlipBoard$Dots;)V"⟩, 5) := ⟨⟨by decide +kernel, by decide +kernel⟩, List.mem_of_getElem? (i := 220) (by decide +kernel), List.mem_of_getElem? (i := 692) (by decide +kernel), List.mem_of_getElem? (i := 693) (by decide +kernel)⟩
theorem lw_p14 : lw_okq (⟨"FlipBoard$Orders", "wholeSet", "()I"⟩, 5) := ⟨⟨by decide +kernel, by decide +kernel⟩, List.mem_of_getElem? (i := 220) (by decide +kernel), List.mem_of_getElem? (i := 697) (by decide +kernel), List.mem_of_getElem? (i := 698) (by decide +kernel)⟩
theorem lw_p15 : lw_okq (⟨"FlipBoard$Orders", "nextBehind", "(II)I"⟩, 5) := ⟨⟨by decide +kernel, by decide +kernel⟩, List.mem_of_getElem? (i := 220) (by decide +kernel), List.mem_of_getElem? (i := 701) (by decide +kernel), List.mem_of_getElem? (i := 702) (by decide +kernel)⟩
def lw_privs_1 : List (MethodName × Nat) := [(⟨"FlipBoard$Reader", "takes", "(I)Z"⟩, 5), (⟨"FlipBoard$Reader", "takesStart", "(I)Z"⟩, 5), (⟨"FlipBoard$Reader", "takesEqualsSign", "(I)Z"⟩, 5), (⟨"FlipBoard$Reader", "takesFirstDigit", "(I)Z"⟩, 5), (⟨"FlipBoard$Reader", "endItem", "()V"⟩, 5), (⟨"FlipBoard$Reader", "takesSecondDigit", "(I)Z"⟩, 5), (⟨"FlipBoard$Reader", "takesCharacter", "(I)Z"⟩, 5), (⟨"FlipBoard", "canShow", "(II)Z"⟩, 9), (⟨"FlipBoard$Flipper", "arrange", "(LFlipBoard$Dots;I)V"⟩, 1), (⟨"FlipBoard$Flipper", "arrangeByDueDots", "(LFlipBoard$Dots;)V"⟩, 1), (⟨"FlipBoard$Flipper", "flipColumn", "(LFlipBoard$State;II)I"⟩, 1), (⟨"FlipBoard", "isSetToOrder", "(I)Z"⟩, 9), (⟨"FlipBoard$Orders", "gather", "(LFlipBoard$State;ILFlipBoard$Painter;)V"⟩, 5), (⟨"FlipBoard$Orders", "measure", "(LFlipBoard$Dots;)V"⟩, 5), (⟨"FlipBoard$Orders", "wholeSet", "()I"⟩, 5), (⟨"FlipBoard$Orders", "nextBehind", "(II)I"⟩, 5)]
theorem lw_r1 : ∀ q ∈ lw_privs_1, lw_okq q := List.forall_mem_cons.mpr ⟨lw_p0, List.forall_mem_cons.mpr ⟨lw_p1, List.forall_mem_cons.mpr ⟨lw_p2, List.forall_mem_cons.mpr ⟨lw_p3, List.forall_mem_cons.mpr ⟨lw_p4, List.forall_mem_cons.mpr ⟨lw_p5, List.forall_mem_cons.mpr ⟨lw_p6, List.forall_mem_cons.mpr ⟨lw_p7, List.forall_mem_cons.mpr ⟨lw_p8, List.forall_mem_cons.mpr ⟨lw_p9, List.forall_mem_cons.mpr ⟨lw_p10, List.forall_mem_cons.mpr ⟨lw_p11, List.forall_mem_cons.mpr ⟨lw_p12, List.forall_mem_cons.mpr ⟨lw_p13, List.forall_mem_cons.mpr ⟨lw_p14, List.forall_mem_cons.mpr ⟨lw_p15, fun _ h => absurd h List.not_mem_nil⟩⟩⟩⟩⟩⟩⟩⟩⟩⟩⟩⟩⟩⟩⟩⟩
theorem lw_p16 : lw_okq (⟨"FlipBoard$Orders", "flipsBy", "(III)I"⟩, 5) := ⟨⟨by decide +kernel, by decide +kernel⟩, List.mem_of_getElem? (i := 220) (by decide +kernel), List.mem_of_getElem? (i := 709) (by decide +kernel), List.mem_of_getElem? (i := 710) (by decide +kernel)⟩
theorem lw_p17 : lw_okq (⟨"FlipBoardModel", "hold", "()V"⟩, 16) := ⟨⟨by decide +kernel, by decide +kernel⟩, List.mem_of_getElem? (i := 729) (by decide +kernel), List.mem_of_getElem? (i := 791) (by decide +kernel), List.mem_of_getElem? (i := 792) (by decide +kernel)⟩
theorem lw_p18 : lw_okq (⟨"FlipBoardModel", "ends", "(I)I"⟩, 16) := ⟨⟨by decide +kernel, by decide +kernel⟩, List.mem_of_getElem? (i := 729) (by decide +kernel), List.mem_of_getElem? (i := 798) (by decide +kernel), List.mem_of_getElem? (i := 799) (by decide +kernel)⟩
theorem lw_p19 : lw_okq (⟨"FlipBoardModel", "isMessage", "(I)Z"⟩, 16) := ⟨⟨by decide +kernel, by decide +kernel⟩, List.mem_of_getElem? (i := 729) (by decide +kernel), List.mem_of_getElem? (i := 821) (by decide +kernel), List.mem_of_getElem? (i := 822) (by decide +kernel)⟩
theorem lw_p20 : lw_okq (⟨"FlipBoardModel", "skips", "()V"⟩, 16) := ⟨⟨by decide +kernel, by decide +kernel⟩, List.mem_of_getElem? (i := 729) (by decide +kernel), List.mem_of_getElem? (i := 837) (by decide +kernel), List.mem_of_getElem? (i := 838) (by decide +kernel)⟩
theorem lw_p21 : lw_okq (⟨"FlipBoardModel", "here", "()I"⟩, 16) := ⟨⟨by decide +kernel, by decide +kernel⟩, List.mem_of_getElem? (i := 729) (by decide +kernel), List.mem_of_getElem? (i := 841) (by decide +kernel), List.mem_of_getElem? (i := 842) (by decide +kernel)⟩
theorem lw_p22 : lw_okq (⟨"FlipBoardModel", "isLetter", "()Z"⟩, 16) := ⟨⟨by decide +kernel, by decide +kernel⟩, List.mem_of_getElem? (i := 729) (by decide +kernel), List.mem_of_getElem? (i := 845) (by decide +kernel), List.mem_of_getElem? (i := 846) (by decide +kernel)⟩
theorem lw_p23 : lw_okq (⟨"FlipBoardModel", "isText", "()Z"⟩, 16) := ⟨⟨by decide +kernel, by decide +kernel⟩, List.mem_of_getElem? (i := 729) (by decide +kernel), List.mem_of_getElem? (i := 852) (by decide +kernel), List.mem_of_getElem? (i := 853) (by decide +kernel)⟩
theorem lw_p24 : lw_okq (⟨"FlipBoardModel", "isShow", "(II)Z"⟩, 16) := ⟨⟨by decide +kernel, by decide +kernel⟩, List.mem_of_getElem? (i := 729) (by decide +kernel), List.mem_of_getElem? (i := 860) (by decide +kernel), List.mem_of_getElem? (i := 861) (by decide +kernel)⟩
theorem lw_p25 : lw_okq (⟨"FlipBoardModel", "aims", "(II)V"⟩, 16) := ⟨⟨by decide +kernel, by decide +kernel⟩, List.mem_of_getElem? (i := 729) (by decide +kernel), List.mem_of_getElem? (i := 864) (by decide +kernel), List.mem_of_getElem? (i := 865) (by decide +kernel)⟩
theorem lw_p26 : lw_okq (⟨"FlipBoardModel", "shiftFor", "(II)I"⟩, 16) := ⟨⟨by decide +kernel, by decide +kernel⟩, List.mem_of_getElem? (i := 729) (by decide +kernel), List.mem_of_getElem? (i := 868) (by decide +kernel), List.mem_of_getElem? (i := 869) (by decide +kernel)⟩
theorem lw_p27 : lw_okq (⟨"FlipBoardModel", "bestOf", "(I)I"⟩, 16) := ⟨⟨by decide +kernel, by decide +kernel⟩, List.mem_of_getElem? (i := 729) (by decide +kernel), List.mem_of_getElem? (i := 872) (by decide +kernel), List.mem_of_getElem? (i := 873) (by decide +kernel)⟩
theorem lw_p28 : lw_okq (⟨"FlipBoardModel", "lays", "(II[I)V"⟩, 16) := ⟨⟨by decide +kernel, by decide +kernel⟩, List.mem_of_getElem? (i := 729) (by decide +kernel), List.mem_of_getElem? (i := 876) (by decide +kernel), List.mem_of_getElem? (i := 877) (by decide +kernel)⟩
theorem lw_p29 : lw_okq (⟨"FlipBoardModel", "stripOf", "(I)I"⟩, 16) := ⟨⟨by decide +kernel, by decide +kernel⟩, List.mem_of_getElem? (i := 729) (by decide +kernel), List.mem_of_getElem? (i := 880) (by decide +kernel), List.mem_of_getElem? (i := 881) (by decide +kernel)⟩
theorem lw_p30 : lw_okq (⟨"FlipBoardModel", "lengthOf", "(I)I"⟩, 16) := ⟨⟨by decide +kernel, by decide +kernel⟩, List.mem_of_getElem? (i := 729) (by decide +kernel), List.mem_of_getElem? (i := 884) (by decide +kernel), List.mem_of_getElem? (i := 885) (by decide +kernel)⟩
theorem lw_p31 : lw_okq (⟨"FlipBoardModel", "characterOf", "(II)I"⟩, 16) := ⟨⟨by decide +kernel, by decide +kernel⟩, List.mem_of_getElem? (i := 729) (by decide +kernel), List.mem_of_getElem? (i := 888) (by decide +kernel), List.mem_of_getElem? (i := 889) (by decide +kernel)⟩
def lw_privs_2 : List (MethodName × Nat) := [(⟨"FlipBoard$Orders", "flipsBy", "(III)I"⟩, 5), (⟨"FlipBoardModel", "hold", "()V"⟩, 16), (⟨"FlipBoardModel", "ends", "(I)I"⟩, 16), (⟨"FlipBoardModel", "isMessage", "(I)Z"⟩, 16), (⟨"FlipBoardModel", "skips", "()V"⟩, 16), (⟨"FlipBoardModel", "here", "()I"⟩, 16), (⟨"FlipBoardModel", "isLetter", "()Z"⟩, 16), (⟨"FlipBoardModel", "isText", "()Z"⟩, 16), (⟨"FlipBoardModel", "isShow", "(II)Z"⟩, 16), (⟨"FlipBoardModel", "aims", "(II)V"⟩, 16), (⟨"FlipBoardModel", "shiftFor", "(II)I"⟩, 16), (⟨"FlipBoardModel", "bestOf", "(I)I"⟩, 16), (⟨"FlipBoardModel", "lays", "(II[I)V"⟩, 16), (⟨"FlipBoardModel", "stripOf", "(I)I"⟩, 16), (⟨"FlipBoardModel", "lengthOf", "(I)I"⟩, 16), (⟨"FlipBoardModel", "characterOf", "(II)I"⟩, 16)]
theorem lw_r2 : ∀ q ∈ lw_privs_2, lw_okq q := List.forall_mem_cons.mpr ⟨lw_p16, List.forall_mem_cons.mpr ⟨lw_p17, List.forall_mem_cons.mpr ⟨lw_p18, List.forall_mem_cons.mpr ⟨lw_p19, List.forall_mem_cons.mpr ⟨lw_p20, List.forall_mem_cons.mpr ⟨lw_p21, List.forall_mem_cons.mpr ⟨lw_p22, List.forall_mem_cons.mpr ⟨lw_p23, List.forall_mem_cons.mpr ⟨lw_p24, List.forall_mem_cons.mpr ⟨lw_p25, List.forall_mem_cons.mpr ⟨lw_p26, List.forall_mem_cons.mpr ⟨lw_p27, List.forall_mem_cons.mpr ⟨lw_p28, List.forall_mem_cons.mpr ⟨lw_p29, List.forall_mem_cons.mpr ⟨lw_p30, List.forall_mem_cons.mpr ⟨lw_p31, fun _ h => absurd h List.not_mem_nil⟩⟩⟩⟩⟩⟩⟩⟩⟩⟩⟩⟩⟩⟩⟩⟩
theorem lw_p32 : lw_okq (⟨"FlipBoardModel", "wideOf", "(I)I"⟩, 16) := ⟨⟨by decide +kernel, by decide +kernel⟩, List.mem_of_getElem? (i := 729) (by decide +kernel), List.mem_of_getElem? (i := 892) (by decide +kernel), List.mem_of_getElem? (i := 893) (by decide +kernel)⟩
theorem lw_p33 : lw_okq (⟨"FlipBoardModel", "isColumn", "(I)Z"⟩, 16) := ⟨⟨by decide +kernel, by decide +kernel⟩, List.mem_of_getElem? (i := 729) (by decide +kernel), List.mem_of_getElem? (i := 896) (by decide +kernel), List.mem_of_getElem? (i := 897) (by decide +kernel)⟩
theorem lw_p34 : lw_okq (⟨"FlipBoardModel", "differs", "([II[IZ)I"⟩, 16) := ⟨⟨by decide +kernel, by decide +kernel⟩, List.mem_of_getElem? (i := 729) (by decide +kernel), List.mem_of_getElem? (i := 900) (by decide +kernel), List.mem_of_getElem? (i := 901) (by decide +kernel)⟩
theorem lw_p35 : lw_okq (⟨"FlipBoardModel", "dueMany", "()I"⟩, 16) := ⟨⟨by decide +kernel, by decide +kernel⟩, List.mem_of_getElem? (i := 729) (by decide +kernel), List.mem_of_getElem? (i := 907) (by decide +kernel), List.mem_of_getElem? (i := 908) (by decide +kernel)⟩
theorem lw_p36 : lw_okq (⟨"FlipBoardModel", "dueOf", "(I)I"⟩, 16) := ⟨⟨by decide +kernel, by decide +kernel⟩, List.mem_of_getElem? (i := 729) (by decide +kernel), List.mem_of_getElem? (i := 911) (by decide +kernel), List.mem_of_getElem? (i := 912) (by decide +kernel)⟩
theorem lw_p37 : lw_okq (⟨"FlipBoardModel", "isDot", "(II)Z"⟩, 16) := ⟨⟨by decide +kernel, by decide +kernel⟩, List.mem_of_getElem? (i := 729) (by decide +kernel), List.mem_of_getElem? (i := 923) (by decide +kernel), List.mem_of_getElem? (i := 924) (by decide +kernel)⟩
theorem lw_p38 : lw_okq (⟨"FlipBoardModel", "second", "()V"⟩, 16) := ⟨⟨by decide +kernel, by decide +kernel⟩, List.mem_of_getElem? (i := 729) (by decide +kernel), List.mem_of_getElem? (i := 935) (by decide +kernel), List.mem_of_getElem? (i := 936) (by decide +kernel)⟩
theorem lw_p39 : lw_okq (⟨"FlipBoardModel", "nextColumn", "(I)I"⟩, 16) := ⟨⟨by decide +kernel, by decide +kernel⟩, List.mem_of_getElem? (i := 729) (by decide +kernel), List.mem_of_getElem? (i := 939) (by decide +kernel), List.mem_of_getElem? (i := 940) (by decide +kernel)⟩
theorem lw_p40 : lw_okq (⟨"FlipBoardModel", "flipsAt", "(II)V"⟩, 16) := ⟨⟨by decide +kernel, by decide +kernel⟩, List.mem_of_getElem? (i := 729) (by decide +kernel), List.mem_of_getElem? (i := 943) (by decide +kernel), List.mem_of_getElem? (i := 944) (by decide +kernel)⟩
theorem lw_p41 : lw_okq (⟨"FlipBoardModel", "bitsOf", "(I)I"⟩, 16) := ⟨⟨by decide +kernel, by decide +kernel⟩, List.mem_of_getElem? (i := 729) (by decide +kernel), List.mem_of_getElem? (i := 951) (by decide +kernel), List.mem_of_getElem? (i := 952) (by decide +kernel)⟩
theorem lw_p42 : lw_okq (⟨"FlipBoardModel", "offMany", "()I"⟩, 16) := ⟨⟨by decide +kernel, by decide +kernel⟩, List.mem_of_getElem? (i := 729) (by decide +kernel), List.mem_of_getElem? (i := 955) (by decide +kernel), List.mem_of_getElem? (i := 956) (by decide +kernel)⟩
theorem lw_p43 : lw_okq (⟨"FlipBoardModel", "betweenOf", "(II)I"⟩, 16) := ⟨⟨by decide +kernel, by decide +kernel⟩, List.mem_of_getElem? (i := 729) (by decide +kernel), List.mem_of_getElem? (i := 1003) (by decide +kernel), List.mem_of_getElem? (i := 1004) (by decide +kernel)⟩
theorem lw_p44 : lw_okq (⟨"FlipBoardModel", "laysFlips", "()V"⟩, 16) := ⟨⟨by decide +kernel, by decide +kernel⟩, List.mem_of_getElem? (i := 729) (by decide +kernel), List.mem_of_getElem? (i := 1011) (by decide +kernel), List.mem_of_getElem? (i := 1012) (by decide +kernel)⟩
theorem lw_p45 : lw_okq (⟨"FlipBoardModel", "flipsFor", "()I"⟩, 16) := ⟨⟨by decide +kernel, by decide +kernel⟩, List.mem_of_getElem? (i := 729) (by decide +kernel), List.mem_of_getElem? (i := 1015) (by decide +kernel), List.mem_of_getElem? (i := 1016) (by decide +kernel)⟩
theorem lw_p46 : lw_okq (⟨"FlipBoardModel", "goesOn", "()Z"⟩, 16) := ⟨⟨by decide +kernel, by decide +kernel⟩, List.mem_of_getElem? (i := 729) (by decide +kernel), List.mem_of_getElem? (i := 1019) (by decide +kernel), List.mem_of_getElem? (i := 1020) (by decide +kernel)⟩
theorem lw_p47 : lw_okq (⟨"FlipBoardModel", "swaps", "(II)V"⟩, 16) := ⟨⟨by decide +kernel, by decide +kernel⟩, List.mem_of_getElem? (i := 729) (by decide +kernel), List.mem_of_getElem? (i := 1023) (by decide +kernel), List.mem_of_getElem? (i := 1024) (by decide +kernel)⟩
def lw_privs_3 : List (MethodName × Nat) := [(⟨"FlipBoardModel", "wideOf", "(I)I"⟩, 16), (⟨"FlipBoardModel", "isColumn", "(I)Z"⟩, 16), (⟨"FlipBoardModel", "differs", "([II[IZ)I"⟩, 16), (⟨"FlipBoardModel", "dueMany", "()I"⟩, 16), (⟨"FlipBoardModel", "dueOf", "(I)I"⟩, 16), (⟨"FlipBoardModel", "isDot", "(II)Z"⟩, 16), (⟨"FlipBoardModel", "second", "()V"⟩, 16), (⟨"FlipBoardModel", "nextColumn", "(I)I"⟩, 16), (⟨"FlipBoardModel", "flipsAt", "(II)V"⟩, 16), (⟨"FlipBoardModel", "bitsOf", "(I)I"⟩, 16), (⟨"FlipBoardModel", "offMany", "()I"⟩, 16), (⟨"FlipBoardModel", "betweenOf", "(II)I"⟩, 16), (⟨"FlipBoardModel", "laysFlips", "()V"⟩, 16), (⟨"FlipBoardModel", "flipsFor", "()I"⟩, 16), (⟨"FlipBoardModel", "goesOn", "()Z"⟩, 16), (⟨"FlipBoardModel", "swaps", "(II)V"⟩, 16)]
theorem lw_r3 : ∀ q ∈ lw_privs_3, lw_okq q := List.forall_mem_cons.mpr ⟨lw_p32, List.forall_mem_cons.mpr ⟨lw_p33, List.forall_mem_cons.mpr ⟨lw_p34, List.forall_mem_cons.mpr ⟨lw_p35, List.forall_mem_cons.mpr ⟨lw_p36, List.forall_mem_cons.mpr ⟨lw_p37, List.forall_mem_cons.mpr ⟨lw_p38, List.forall_mem_cons.mpr ⟨lw_p39, List.forall_mem_cons.mpr ⟨lw_p40, List.forall_mem_cons.mpr ⟨lw_p41, List.forall_mem_cons.mpr ⟨lw_p42, List.forall_mem_cons.mpr ⟨lw_p43, List.forall_mem_cons.mpr ⟨lw_p44, List.forall_mem_cons.mpr ⟨lw_p45, List.forall_mem_cons.mpr ⟨lw_p46, List.forall_mem_cons.mpr ⟨lw_p47, fun _ h => absurd h List.not_mem_nil⟩⟩⟩⟩⟩⟩⟩⟩⟩⟩⟩⟩⟩⟩⟩⟩
def lw_privs : List (MethodName × Nat) := lw_privs_1 ++ (lw_privs_2 ++ (lw_privs_3))
def lw_tbl : List Cond := k2_sels lw_privs ++ tables_1
theorem lw_privs_ok : ∀ q ∈ lw_privs, lw_okq q := by
  show ∀ q ∈ lw_privs_1 ++ (lw_privs_2 ++ (lw_privs_3)), lw_okq q
  exact List.forall_mem_append.mpr ⟨lw_r1, List.forall_mem_append.mpr ⟨lw_r2, lw_r3⟩⟩

def RX0 : String := "FlipBoard$Dots"
def TX0 : u_T := fun k => match k with
  | 0 => ("FlipBoard$Dots", "width", "I", false)
  | 1 => ("FlipBoard$Dots", "shown", "[I", true)
  | 2 => ("FlipBoard$Dots", "aim", "[I", true)
  | 3 => ("FlipBoard$Dots", "stuck", "[I", true)
  | 4 => ("FlipBoard$Dots", "known", "[I", true)
  | _ => ("FlipBoard$Dots", "flips", "[I", true)
def tyX0 : Nat → FieldType := fun k => match k with
  | 0 => .int
  | 1 => .array .int
  | 2 => .array .int
  | 3 => .array .int
  | 4 => .array .int
  | _ => .array .int
theorem nmX0 : ∀ a, a < 6 → ∀ b, b < 6 → a ≠ b → (TX0 a).2.1 ≠ (TX0 b).2.1 := by decide +kernel
theorem tyX0_ok : ∀ k, k < 6 → parseFieldDescriptor (TX0 k).2.2.1 = some (tyX0 k) := by decide +kernel
abbrev cX0_init : ByteArray := prog_2_method_1_code
def yX0_init : MethodName := ⟨RX0, "<init>", "()V"⟩
abbrev cX0_copyFrom : ByteArray := prog_2_method_2_code
def yX0_copyFrom : MethodName := ⟨RX0, "copyFrom", "(LFlipBoard$Dots;)V"⟩
abbrev cX0_renew : ByteArray := prog_2_method_3_code
def yX0_renew : MethodName := ⟨RX0, "renew", "(I)V"⟩
abbrev cX0_hasColumn : ByteArray := prog_2_method_4_code
def yX0_hasColumn : MethodName := ⟨RX0, "hasColumn", "(I)Z"⟩
abbrev cX0_hasDot : ByteArray := prog_2_method_5_code
def yX0_hasDot : MethodName := ⟨RX0, "hasDot", "(II)Z"⟩
abbrev cX0_aimAt : ByteArray := prog_2_method_6_code
def yX0_aimAt : MethodName := ⟨RX0, "aimAt", "([I)V"⟩
abbrev cX0_aimAtDark : ByteArray := prog_2_method_7_code
def yX0_aimAtDark : MethodName := ⟨RX0, "aimAtDark", "()V"⟩
abbrev cX0_dueBits : ByteArray := prog_2_method_8_code
def yX0_dueBits : MethodName := ⟨RX0, "dueBits", "(I)I"⟩
abbrev cX0_dueDots : ByteArray := prog_2_method_9_code
def yX0_dueDots : MethodName := ⟨RX0, "dueDots", "()I"⟩
abbrev cX0_differing : ByteArray := prog_2_method_10_code
def yX0_differing : MethodName := ⟨RX0, "differing", "([I[I)I"⟩
abbrev cX0_stuckDots : ByteArray := prog_2_method_11_code
def yX0_stuckDots : MethodName := ⟨RX0, "stuckDots", "()I"⟩
abbrev cX0_knownDots : ByteArray := prog_2_method_12_code
def yX0_knownDots : MethodName := ⟨RX0, "knownDots", "()I"⟩
abbrev cX0_dotsIn : ByteArray := prog_2_method_13_code
def yX0_dotsIn : MethodName := ⟨RX0, "dotsIn", "([I)I"⟩
abbrev cX0_otherDots : ByteArray := prog_2_method_14_code
def yX0_otherDots : MethodName := ⟨RX0, "otherDots", "()I"⟩
abbrev cX0_knownAgainst : ByteArray := prog_2_method_15_code
def yX0_knownAgainst : MethodName := ⟨RX0, "knownAgainst", "([I)I"⟩
abbrev cX0_isStuck : ByteArray := prog_2_method_16_code
def yX0_isStuck : MethodName := ⟨RX0, "isStuck", "(II)Z"⟩
abbrev cX0_stick : ByteArray := prog_2_method_17_code
def yX0_stick : MethodName := ⟨RX0, "stick", "(II)V"⟩
abbrev cX0_makeKnown : ByteArray := prog_2_method_18_code
def yX0_makeKnown : MethodName := ⟨RX0, "makeKnown", "(II)V"⟩
abbrev cX0_flip : ByteArray := prog_2_method_19_code
def yX0_flip : MethodName := ⟨RX0, "flip", "(II)V"⟩
abbrev cX0_flipsOf : ByteArray := prog_2_method_20_code
def yX0_flipsOf : MethodName := ⟨RX0, "flipsOf", "(II)I"⟩
abbrev cX0_renewDot : ByteArray := prog_2_method_21_code
def yX0_renewDot : MethodName := ⟨RX0, "renewDot", "(II)V"⟩
def RX1 : String := "FlipBoard$Flipper"
def TX1 : u_T := fun k => match k with
  | _ => ("FlipBoard$Flipper", "sequence", "[I", true)
def tyX1 : Nat → FieldType := fun k => match k with
  | _ => .array .int
theorem nmX1 : ∀ a, a < 1 → ∀ b, b < 1 → a ≠ b → (TX1 a).2.1 ≠ (TX1 b).2.1 := by decide +kernel
theorem tyX1_ok : ∀ k, k < 1 → parseFieldDescriptor (TX1 k).2.2.1 = some (tyX1 k) := by decide +kernel
abbrev cX1_init : ByteArray := prog_3_method_1_code
def yX1_init : MethodName := ⟨RX1, "<init>", "()V"⟩
abbrev cX1_passSecond : ByteArray := prog_3_method_2_code
def yX1_passSecond : MethodName := ⟨RX1, "passSecond", "(LFlipBoard$State;)V"⟩
abbrev cX1_flipColumn : ByteArray := prog_3_method_3_code
def yX1_flipColumn : MethodName := ⟨RX1, "flipColumn", "(LFlipBoard$State;II)I"⟩
abbrev cX1_arrange : ByteArray := prog_3_method_4_code
def yX1_arrange : MethodName := ⟨RX1, "arrange", "(LFlipBoard$Dots;I)V"⟩
abbrev cX1_arrangeByDueDots : ByteArray := prog_3_method_5_code
def yX1_arrangeByDueDots : MethodName := ⟨RX1, "arrangeByDueDots", "(LFlipBoard$Dots;)V"⟩
def RX2 : String := "FlipBoard$History"
def TX2 : u_T := fun k => match k with
  | 0 => ("FlipBoard$History", "states", "[LFlipBoard$State;", true)
  | 1 => ("FlipBoard$History", "first", "I", false)
  | _ => ("FlipBoard$History", "size", "I", false)
def tyX2 : Nat → FieldType := fun k => match k with
  | 0 => .array (.object "FlipBoard$State")
  | 1 => .int
  | _ => .int
theorem nmX2 : ∀ a, a < 3 → ∀ b, b < 3 → a ≠ b → (TX2 a).2.1 ≠ (TX2 b).2.1 := by decide +kernel
theorem tyX2_ok : ∀ k, k < 3 → parseFieldDescriptor (TX2 k).2.2.1 = some (tyX2 k) := by decide +kernel
abbrev cX2_init : ByteArray := prog_4_method_1_code
def yX2_init : MethodName := ⟨RX2, "<init>", "()V"⟩
abbrev cX2_keep : ByteArray := prog_4_method_2_code
def yX2_keep : MethodName := ⟨RX2, "keep", "(LFlipBoard$State;)V"⟩
abbrev cX2_restore : ByteArray := prog_4_method_3_code
def yX2_restore : MethodName := ⟨RX2, "restore", "(LFlipBoard$State;)V"⟩
abbrev cX2_stateAt : ByteArray := prog_4_method_4_code
def yX2_stateAt : MethodName := ⟨RX2, "stateAt", "(I)LFlipBoard$State;"⟩
def RX3 : String := "FlipBoard$Meter"
def TX3 : u_T := fun k => match k with
  | 0 => ("FlipBoard$Meter", "flips", "I", false)
  | 1 => ("FlipBoard$Meter", "tries", "I", false)
  | 2 => ("FlipBoard$Meter", "power", "I", false)
  | 3 => ("FlipBoard$Meter", "seconds", "I", false)
  | _ => ("FlipBoard$Meter", "recent", "[I", true)
def tyX3 : Nat → FieldType := fun k => match k with
  | 0 => .int
  | 1 => .int
  | 2 => .int
  | 3 => .int
  | _ => .array .int
theorem nmX3 : ∀ a, a < 5 → ∀ b, b < 5 → a ≠ b → (TX3 a).2.1 ≠ (TX3 b).2.1 := by decide +kernel
theorem tyX3_ok : ∀ k, k < 5 → parseFieldDescriptor (TX3 k).2.2.1 = some (tyX3 k) := by decide +kernel
abbrev cX3_init : ByteArray := prog_5_method_1_code
def yX3_init : MethodName := ⟨RX3, "<init>", "()V"⟩
abbrev cX3_copyFrom : ByteArray := prog_5_method_2_code
def yX3_copyFrom : MethodName := ⟨RX3, "copyFrom", "(LFlipBoard$Meter;)V"⟩
abbrev cX3_renew : ByteArray := prog_5_method_3_code
def yX3_renew : MethodName := ⟨RX3, "renew", "()V"⟩
abbrev cX3_addSecond : ByteArray := prog_5_method_4_code
def yX3_addSecond : MethodName := ⟨RX3, "addSecond", "(I)V"⟩
abbrev cX3_powerOf : ByteArray := prog_5_method_5_code
def yX3_powerOf : MethodName := ⟨RX3, "powerOf", "(I)I"⟩
def RX4 : String := "FlipBoard$Orders"
def TX4 : u_T := fun k => match k with
  | 0 => ("FlipBoard$Orders", "members", "[I", true)
  | 1 => ("FlipBoard$Orders", "pictures", "[[I", true)
  | 2 => ("FlipBoard$Orders", "steps", "[[I", true)
  | 3 => ("FlipBoard$Orders", "fewest", "[[I", true)
  | _ => ("FlipBoard$Orders", "size", "I", false)
def tyX4 : Nat → FieldType := fun k => match k with
  | 0 => .array .int
  | 1 => .array (.array .int)
  | 2 => .array (.array .int)
  | 3 => .array (.array .int)
  | _ => .int
theorem nmX4 : ∀ a, a < 5 → ∀ b, b < 5 → a ≠ b → (TX4 a).2.1 ≠ (TX4 b).2.1 := by decide +kernel
theorem tyX4_ok : ∀ k, k < 5 → parseFieldDescriptor (TX4 k).2.2.1 = some (tyX4 k) := by decide +kernel
abbrev cX4_init : ByteArray := prog_6_method_1_code
def yX4_init : MethodName := ⟨RX4, "<init>", "()V"⟩
abbrev cX4_find : ByteArray := prog_6_method_2_code
def yX4_find : MethodName := ⟨RX4, "find", "(LFlipBoard$State;ILFlipBoard$Painter;)V"⟩
abbrev cX4_fewestFlips : ByteArray := prog_6_method_3_code
def yX4_fewestFlips : MethodName := ⟨RX4, "fewestFlips", "()I"⟩
abbrev cX4_messageAt : ByteArray := prog_6_method_4_code
def yX4_messageAt : MethodName := ⟨RX4, "messageAt", "(I)I"⟩
abbrev cX4_gather : ByteArray := prog_6_method_5_code
def yX4_gather : MethodName := ⟨RX4, "gather", "(LFlipBoard$State;ILFlipBoard$Painter;)V"⟩
abbrev cX4_measure : ByteArray := prog_6_method_6_code
def yX4_measure : MethodName := ⟨RX4, "measure", "(LFlipBoard$Dots;)V"⟩
abbrev cX4_nextBehind : ByteArray := prog_6_method_7_code
def yX4_nextBehind : MethodName := ⟨RX4, "nextBehind", "(II)I"⟩
abbrev cX4_flipsBy : ByteArray := prog_6_method_8_code
def yX4_flipsBy : MethodName := ⟨RX4, "flipsBy", "(III)I"⟩
abbrev cX4_wholeSet : ByteArray := prog_6_method_9_code
def yX4_wholeSet : MethodName := ⟨RX4, "wholeSet", "()I"⟩
abbrev cX4_without : ByteArray := prog_6_method_10_code
def yX4_without : MethodName := ⟨RX4, "without", "(II)I"⟩
def RX5 : String := "FlipBoard$Painter"
def TX5 : u_T := fun k => match k with
  | 0 => ("FlipBoard$Painter", "picture", "[I", true)
  | _ => ("FlipBoard$Painter", "otherPicture", "[I", true)
def tyX5 : Nat → FieldType := fun k => match k with
  | 0 => .array .int
  | _ => .array .int
theorem nmX5 : ∀ a, a < 2 → ∀ b, b < 2 → a ≠ b → (TX5 a).2.1 ≠ (TX5 b).2.1 := by decide +kernel
theorem tyX5_ok : ∀ k, k < 2 → parseFieldDescriptor (TX5 k).2.2.1 = some (tyX5 k) := by decide +kernel
abbrev cX5_init : ByteArray := prog_7_method_1_code
def yX5_init : MethodName := ⟨RX5, "<init>", "()V"⟩
abbrev cX5_draw : ByteArray := prog_7_method_2_code
def yX5_draw : MethodName := ⟨RX5, "draw", "(LFlipBoard$State;II[I)V"⟩
abbrev cX5_drawAs : ByteArray := prog_7_method_3_code
def yX5_drawAs : MethodName := ⟨RX5, "drawAs", "(LFlipBoard$State;II)V"⟩
abbrev cX5_bestShiftOf : ByteArray := prog_7_method_4_code
def yX5_bestShiftOf : MethodName := ⟨RX5, "bestShiftOf", "(LFlipBoard$State;I)I"⟩
def RX6 : String := "FlipBoard$Reader"
def TX6 : u_T := fun k => match k with
  | 0 => ("FlipBoard$Reader", "draft", "LFlipBoard$Script;", true)
  | 1 => ("FlipBoard$Reader", "items", "I", false)
  | 2 => ("FlipBoard$Reader", "expected", "I", false)
  | 3 => ("FlipBoard$Reader", "letter", "I", false)
  | _ => ("FlipBoard$Reader", "firstDigit", "I", false)
def tyX6 : Nat → FieldType := fun k => match k with
  | 0 => .object "FlipBoard$Script"
  | 1 => .int
  | 2 => .int
  | 3 => .int
  | _ => .int
theorem nmX6 : ∀ a, a < 5 → ∀ b, b < 5 → a ≠ b → (TX6 a).2.1 ≠ (TX6 b).2.1 := by decide +kernel
theorem tyX6_ok : ∀ k, k < 5 → parseFieldDescriptor (TX6 k).2.2.1 = some (tyX6 k) := by decide +kernel
abbrev cX6_init : ByteArray := prog_8_method_1_code
def yX6_init : MethodName := ⟨RX6, "<init>", "()V"⟩
abbrev cX6_errorIn : ByteArray := prog_8_method_2_code
def yX6_errorIn : MethodName := ⟨RX6, "errorIn", "([IILFlipBoard$Script;)I"⟩
abbrev cX6_takes : ByteArray := prog_8_method_3_code
def yX6_takes : MethodName := ⟨RX6, "takes", "(I)Z"⟩
abbrev cX6_takesStart : ByteArray := prog_8_method_4_code
def yX6_takesStart : MethodName := ⟨RX6, "takesStart", "(I)Z"⟩
abbrev cX6_takesEqualsSign : ByteArray := prog_8_method_5_code
def yX6_takesEqualsSign : MethodName := ⟨RX6, "takesEqualsSign", "(I)Z"⟩
abbrev cX6_takesFirstDigit : ByteArray := prog_8_method_6_code
def yX6_takesFirstDigit : MethodName := ⟨RX6, "takesFirstDigit", "(I)Z"⟩
abbrev cX6_takesSecondDigit : ByteArray := prog_8_method_7_code
def yX6_takesSecondDigit : MethodName := ⟨RX6, "takesSecondDigit", "(I)Z"⟩
abbrev cX6_takesCharacter : ByteArray := prog_8_method_8_code
def yX6_takesCharacter : MethodName := ⟨RX6, "takesCharacter", "(I)Z"⟩
abbrev cX6_endItem : ByteArray := prog_8_method_9_code
def yX6_endItem : MethodName := ⟨RX6, "endItem", "()V"⟩
abbrev cX6_isSmallLetter : ByteArray := prog_8_method_10_code
def yX6_isSmallLetter : MethodName := ⟨RX6, "isSmallLetter", "(I)Z"⟩
abbrev cX6_digitOf : ByteArray := prog_8_method_11_code
def yX6_digitOf : MethodName := ⟨RX6, "digitOf", "(I)I"⟩
def RX7 : String := "FlipBoard$Script"
def TX7 : u_T := fun k => match k with
  | 0 => ("FlipBoard$Script", "columns", "[I", true)
  | 1 => ("FlipBoard$Script", "widths", "[I", true)
  | 2 => ("FlipBoard$Script", "characters", "[I", true)
  | 3 => ("FlipBoard$Script", "lengths", "[I", true)
  | _ => ("FlipBoard$Script", "messages", "I", false)
def tyX7 : Nat → FieldType := fun k => match k with
  | 0 => .array .int
  | 1 => .array .int
  | 2 => .array .int
  | 3 => .array .int
  | _ => .int
theorem nmX7 : ∀ a, a < 5 → ∀ b, b < 5 → a ≠ b → (TX7 a).2.1 ≠ (TX7 b).2.1 := by decide +kernel
theorem tyX7_ok : ∀ k, k < 5 → parseFieldDescriptor (TX7 k).2.2.1 = some (tyX7 k) := by decide +kernel
abbrev cX7_init : ByteArray := prog_9_method_1_code
def yX7_init : MethodName := ⟨RX7, "<init>", "()V"⟩
abbrev cX7_copyFrom : ByteArray := prog_9_method_2_code
def yX7_copyFrom : MethodName := ⟨RX7, "copyFrom", "(LFlipBoard$Script;)V"⟩
abbrev cX7_widthOf : ByteArray := prog_9_method_3_code
def yX7_widthOf : MethodName := ⟨RX7, "widthOf", "(I)I"⟩
abbrev cX7_columnOf : ByteArray := prog_9_method_4_code
def yX7_columnOf : MethodName := ⟨RX7, "columnOf", "(II)I"⟩
abbrev cX7_putColumn : ByteArray := prog_9_method_5_code
def yX7_putColumn : MethodName := ⟨RX7, "putColumn", "(III)V"⟩
abbrev cX7_clearLetter : ByteArray := prog_9_method_6_code
def yX7_clearLetter : MethodName := ⟨RX7, "clearLetter", "(I)V"⟩
abbrev cX7_isLetter : ByteArray := prog_9_method_7_code
def yX7_isLetter : MethodName := ⟨RX7, "isLetter", "(I)Z"⟩
abbrev cX7_hasMessage : ByteArray := prog_9_method_8_code
def yX7_hasMessage : MethodName := ⟨RX7, "hasMessage", "(I)Z"⟩
abbrev cX7_lengthOf : ByteArray := prog_9_method_9_code
def yX7_lengthOf : MethodName := ⟨RX7, "lengthOf", "(I)I"⟩
abbrev cX7_characterOf : ByteArray := prog_9_method_10_code
def yX7_characterOf : MethodName := ⟨RX7, "characterOf", "(II)I"⟩
abbrev cX7_startMessage : ByteArray := prog_9_method_11_code
def yX7_startMessage : MethodName := ⟨RX7, "startMessage", "()V"⟩
abbrev cX7_addCharacter : ByteArray := prog_9_method_12_code
def yX7_addCharacter : MethodName := ⟨RX7, "addCharacter", "(I)V"⟩
abbrev cX7_dropMessage : ByteArray := prog_9_method_13_code
def yX7_dropMessage : MethodName := ⟨RX7, "dropMessage", "(I)V"⟩
abbrev cX7_stripColumns : ByteArray := prog_9_method_14_code
def yX7_stripColumns : MethodName := ⟨RX7, "stripColumns", "(I)I"⟩
abbrev cX7_stripBits : ByteArray := prog_9_method_15_code
def yX7_stripBits : MethodName := ⟨RX7, "stripBits", "(II)I"⟩
def RX8 : String := "FlipBoard$State"
def TX8 : u_T := fun k => match k with
  | 0 => ("FlipBoard$State", "dots", "LFlipBoard$Dots;", true)
  | 1 => ("FlipBoard$State", "meter", "LFlipBoard$Meter;", true)
  | 2 => ("FlipBoard$State", "script", "LFlipBoard$Script;", true)
  | _ => ("FlipBoard$State", "numbers", "[I", true)
def tyX8 : Nat → FieldType := fun k => match k with
  | 0 => .object "FlipBoard$Dots"
  | 1 => .object "FlipBoard$Meter"
  | 2 => .object "FlipBoard$Script"
  | _ => .array .int
theorem nmX8 : ∀ a, a < 4 → ∀ b, b < 4 → a ≠ b → (TX8 a).2.1 ≠ (TX8 b).2.1 := by decide +kernel
theorem tyX8_ok : ∀ k, k < 4 → parseFieldDescriptor (TX8 k).2.2.1 = some (tyX8 k) := by decide +kernel
abbrev cX8_init : ByteArray := prog_10_method_1_code
def yX8_init : MethodName := ⟨RX8, "<init>", "()V"⟩
abbrev cX8_copyFrom : ByteArray := prog_10_method_2_code
def yX8_copyFrom : MethodName := ⟨RX8, "copyFrom", "(LFlipBoard$State;)V"⟩
abbrev cX8_hasNumber : ByteArray := prog_10_method_3_code
def yX8_hasNumber : MethodName := ⟨RX8, "hasNumber", "(I)Z"⟩
abbrev cX8_tryDot : ByteArray := prog_10_method_4_code
def yX8_tryDot : MethodName := ⟨RX8, "tryDot", "(II)V"⟩
def RX9 : String := "FlipBoard"
def TX9 : u_T := fun k => match k with
  | 0 => ("FlipBoard", "now", "LFlipBoard$State;", true)
  | 1 => ("FlipBoard", "trial", "LFlipBoard$State;", true)
  | 2 => ("FlipBoard", "history", "LFlipBoard$History;", true)
  | 3 => ("FlipBoard", "painter", "LFlipBoard$Painter;", true)
  | 4 => ("FlipBoard", "flipper", "LFlipBoard$Flipper;", true)
  | 5 => ("FlipBoard", "reader", "LFlipBoard$Reader;", true)
  | 6 => ("FlipBoard", "orders", "LFlipBoard$Orders;", true)
  | 7 => ("FlipBoard", "text", "[I", true)
  | _ => ("FlipBoard", "textLength", "I", false)
def tyX9 : Nat → FieldType := fun k => match k with
  | 0 => .object "FlipBoard$State"
  | 1 => .object "FlipBoard$State"
  | 2 => .object "FlipBoard$History"
  | 3 => .object "FlipBoard$Painter"
  | 4 => .object "FlipBoard$Flipper"
  | 5 => .object "FlipBoard$Reader"
  | 6 => .object "FlipBoard$Orders"
  | 7 => .array .int
  | _ => .int
theorem nmX9 : ∀ a, a < 9 → ∀ b, b < 9 → a ≠ b → (TX9 a).2.1 ≠ (TX9 b).2.1 := by decide +kernel
theorem tyX9_ok : ∀ k, k < 9 → parseFieldDescriptor (TX9 k).2.2.1 = some (tyX9 k) := by decide +kernel
abbrev cX9_init : ByteArray := prog_1_method_1_code
def yX9_init : MethodName := ⟨RX9, "<init>", "()V"⟩
abbrev cX9_begin : ByteArray := prog_1_method_2_code
def yX9_begin : MethodName := ⟨RX9, "begin", "(I)I"⟩
abbrev cX9_setNumber : ByteArray := prog_1_method_3_code
def yX9_setNumber : MethodName := ⟨RX9, "setNumber", "(II)I"⟩
abbrev cX9_setColumn : ByteArray := prog_1_method_4_code
def yX9_setColumn : MethodName := ⟨RX9, "setColumn", "(III)I"⟩
abbrev cX9_addMessage : ByteArray := prog_1_method_5_code
def yX9_addMessage : MethodName := ⟨RX9, "addMessage", "(II)I"⟩
abbrev cX9_removeMessage : ByteArray := prog_1_method_6_code
def yX9_removeMessage : MethodName := ⟨RX9, "removeMessage", "(I)I"⟩
abbrev cX9_appendCharacter : ByteArray := prog_1_method_7_code
def yX9_appendCharacter : MethodName := ⟨RX9, "appendCharacter", "(I)I"⟩
abbrev cX9_clearText : ByteArray := prog_1_method_8_code
def yX9_clearText : MethodName := ⟨RX9, "clearText", "()I"⟩
abbrev cX9_load : ByteArray := prog_1_method_9_code
def yX9_load : MethodName := ⟨RX9, "load", "()I"⟩
abbrev cX9_show : ByteArray := prog_1_method_10_code
def yX9_show : MethodName := ⟨RX9, "show", "(II)I"⟩
abbrev cX9_darken : ByteArray := prog_1_method_11_code
def yX9_darken : MethodName := ⟨RX9, "darken", "()I"⟩
abbrev cX9_jam : ByteArray := prog_1_method_12_code
def yX9_jam : MethodName := ⟨RX9, "jam", "(II)I"⟩
abbrev cX9_mend : ByteArray := prog_1_method_13_code
def yX9_mend : MethodName := ⟨RX9, "mend", "(II)I"⟩
abbrev cX9_pass : ByteArray := prog_1_method_14_code
def yX9_pass : MethodName := ⟨RX9, "pass", "(I)I"⟩
abbrev cX9_count : ByteArray := prog_1_method_15_code
def yX9_count : MethodName := ⟨RX9, "count", "(I)I"⟩
abbrev cX9_column : ByteArray := prog_1_method_16_code
def yX9_column : MethodName := ⟨RX9, "column", "(II)I"⟩
abbrev cX9_flips : ByteArray := prog_1_method_17_code
def yX9_flips : MethodName := ⟨RX9, "flips", "(II)I"⟩
abbrev cX9_letter : ByteArray := prog_1_method_18_code
def yX9_letter : MethodName := ⟨RX9, "letter", "(II)I"⟩
abbrev cX9_message : ByteArray := prog_1_method_19_code
def yX9_message : MethodName := ⟨RX9, "message", "(II)I"⟩
abbrev cX9_strip : ByteArray := prog_1_method_20_code
def yX9_strip : MethodName := ⟨RX9, "strip", "(I)I"⟩
abbrev cX9_picture : ByteArray := prog_1_method_21_code
def yX9_picture : MethodName := ⟨RX9, "picture", "(III)I"⟩
abbrev cX9_power : ByteArray := prog_1_method_22_code
def yX9_power : MethodName := ⟨RX9, "power", "(I)I"⟩
abbrev cX9_bestShift : ByteArray := prog_1_method_23_code
def yX9_bestShift : MethodName := ⟨RX9, "bestShift", "(I)I"⟩
abbrev cX9_due : ByteArray := prog_1_method_24_code
def yX9_due : MethodName := ⟨RX9, "due", "(II)I"⟩
abbrev cX9_secondsFor : ByteArray := prog_1_method_25_code
def yX9_secondsFor : MethodName := ⟨RX9, "secondsFor", "(II)I"⟩
abbrev cX9_between : ByteArray := prog_1_method_26_code
def yX9_between : MethodName := ⟨RX9, "between", "(II)I"⟩
abbrev cX9_bestOrder : ByteArray := prog_1_method_27_code
def yX9_bestOrder : MethodName := ⟨RX9, "bestOrder", "(II)I"⟩
abbrev cX9_undo : ByteArray := prog_1_method_28_code
def yX9_undo : MethodName := ⟨RX9, "undo", "()I"⟩
abbrev cX9_canShow : ByteArray := prog_1_method_29_code
def yX9_canShow : MethodName := ⟨RX9, "canShow", "(II)Z"⟩
abbrev cX9_isSetToOrder : ByteArray := prog_1_method_30_code
def yX9_isSetToOrder : MethodName := ⟨RX9, "isSetToOrder", "(I)Z"⟩
abbrev cX9_copy : ByteArray := prog_1_method_31_code
def yX9_copy : MethodName := ⟨RX9, "copy", "([I[I)V"⟩
def RX10 : String := "FlipBoardModel"
def TX10 : u_T := fun k => match k with
  | 0 => ("FlipBoardModel", "s", "[I", true)
  | 1 => ("FlipBoardModel", "past", "[I", true)
  | 2 => ("FlipBoardModel", "aside", "[I", true)
  | 3 => ("FlipBoardModel", "kept", "[I", true)
  | 4 => ("FlipBoardModel", "pasts", "I", false)
  | 5 => ("FlipBoardModel", "text", "[I", true)
  | 6 => ("FlipBoardModel", "typed", "I", false)
  | 7 => ("FlipBoardModel", "picture", "[I", true)
  | 8 => ("FlipBoardModel", "other", "[I", true)
  | 9 => ("FlipBoardModel", "began", "[I", true)
  | 10 => ("FlipBoardModel", "spot", "I", false)
  | 11 => ("FlipBoardModel", "order", "[I", true)
  | 12 => ("FlipBoardModel", "bestOne", "[I", true)
  | 13 => ("FlipBoardModel", "orderMany", "I", false)
  | 14 => ("FlipBoardModel", "firstFlips", "[I", true)
  | _ => ("FlipBoardModel", "flipsBetween", "[I", true)
def tyX10 : Nat → FieldType := fun k => match k with
  | 0 => .array .int
  | 1 => .array .int
  | 2 => .array .int
  | 3 => .array .int
  | 4 => .int
  | 5 => .array .int
  | 6 => .int
  | 7 => .array .int
  | 8 => .array .int
  | 9 => .array .int
  | 10 => .int
  | 11 => .array .int
  | 12 => .array .int
  | 13 => .int
  | 14 => .array .int
  | _ => .array .int
theorem nmX10 : ∀ a, a < 16 → ∀ b, b < 16 → a ≠ b → (TX10 a).2.1 ≠ (TX10 b).2.1 := by decide +kernel
theorem tyX10_ok : ∀ k, k < 16 → parseFieldDescriptor (TX10 k).2.2.1 = some (tyX10 k) := by decide +kernel
abbrev cX10_init : ByteArray := prog_12_method_1_code
def yX10_init : MethodName := ⟨RX10, "<init>", "()V"⟩
abbrev cX10_in : ByteArray := prog_12_method_3_code
def yX10_in : MethodName := ⟨RX10, "in", "(III)Z"⟩
abbrev cX10_copies : ByteArray := prog_12_method_4_code
def yX10_copies : MethodName := ⟨RX10, "copies", "([I[I)V"⟩
abbrev cX10_hold : ByteArray := prog_12_method_5_code
def yX10_hold : MethodName := ⟨RX10, "hold", "()V"⟩
abbrev cX10_ends : ByteArray := prog_12_method_6_code
def yX10_ends : MethodName := ⟨RX10, "ends", "(I)I"⟩
abbrev cX10_isColumn : ByteArray := prog_12_method_7_code
def yX10_isColumn : MethodName := ⟨RX10, "isColumn", "(I)Z"⟩
abbrev cX10_isMessage : ByteArray := prog_12_method_8_code
def yX10_isMessage : MethodName := ⟨RX10, "isMessage", "(I)Z"⟩
abbrev cX10_bits : ByteArray := prog_12_method_9_code
def yX10_bits : MethodName := ⟨RX10, "bits", "(I)I"⟩
abbrev cX10_lengthOf : ByteArray := prog_12_method_10_code
def yX10_lengthOf : MethodName := ⟨RX10, "lengthOf", "(I)I"⟩
abbrev cX10_characterOf : ByteArray := prog_12_method_11_code
def yX10_characterOf : MethodName := ⟨RX10, "characterOf", "(II)I"⟩
abbrev cX10_wideOf : ByteArray := prog_12_method_12_code
def yX10_wideOf : MethodName := ⟨RX10, "wideOf", "(I)I"⟩
abbrev cX10_stripOf : ByteArray := prog_12_method_13_code
def yX10_stripOf : MethodName := ⟨RX10, "stripOf", "(I)I"⟩
abbrev cX10_lays : ByteArray := prog_12_method_14_code
def yX10_lays : MethodName := ⟨RX10, "lays", "(II[I)V"⟩
abbrev cX10_differs : ByteArray := prog_12_method_15_code
def yX10_differs : MethodName := ⟨RX10, "differs", "([II[IZ)I"⟩
abbrev cX10_bestOf : ByteArray := prog_12_method_16_code
def yX10_bestOf : MethodName := ⟨RX10, "bestOf", "(I)I"⟩
abbrev cX10_shiftFor : ByteArray := prog_12_method_17_code
def yX10_shiftFor : MethodName := ⟨RX10, "shiftFor", "(II)I"⟩
abbrev cX10_dueOf : ByteArray := prog_12_method_18_code
def yX10_dueOf : MethodName := ⟨RX10, "dueOf", "(I)I"⟩
abbrev cX10_dueMany : ByteArray := prog_12_method_19_code
def yX10_dueMany : MethodName := ⟨RX10, "dueMany", "()I"⟩
abbrev cX10_nextColumn : ByteArray := prog_12_method_20_code
def yX10_nextColumn : MethodName := ⟨RX10, "nextColumn", "(I)I"⟩
abbrev cX10_flipsAt : ByteArray := prog_12_method_21_code
def yX10_flipsAt : MethodName := ⟨RX10, "flipsAt", "(II)V"⟩
abbrev cX10_second : ByteArray := prog_12_method_22_code
def yX10_second : MethodName := ⟨RX10, "second", "()V"⟩
abbrev cX10_begin : ByteArray := prog_12_method_23_code
def yX10_begin : MethodName := ⟨RX10, "begin", "(I)I"⟩
abbrev cX10_isNumber : ByteArray := prog_12_method_24_code
def yX10_isNumber : MethodName := ⟨RX10, "isNumber", "(II)Z"⟩
abbrev cX10_setNumber : ByteArray := prog_12_method_25_code
def yX10_setNumber : MethodName := ⟨RX10, "setNumber", "(II)I"⟩
abbrev cX10_setColumn : ByteArray := prog_12_method_26_code
def yX10_setColumn : MethodName := ⟨RX10, "setColumn", "(III)I"⟩
abbrev cX10_addMessage : ByteArray := prog_12_method_27_code
def yX10_addMessage : MethodName := ⟨RX10, "addMessage", "(II)I"⟩
abbrev cX10_removeMessage : ByteArray := prog_12_method_28_code
def yX10_removeMessage : MethodName := ⟨RX10, "removeMessage", "(I)I"⟩
abbrev cX10_appendCharacter : ByteArray := prog_12_method_29_code
def yX10_appendCharacter : MethodName := ⟨RX10, "appendCharacter", "(I)I"⟩
abbrev cX10_clearText : ByteArray := prog_12_method_30_code
def yX10_clearText : MethodName := ⟨RX10, "clearText", "()I"⟩
abbrev cX10_here : ByteArray := prog_12_method_31_code
def yX10_here : MethodName := ⟨RX10, "here", "()I"⟩
abbrev cX10_skips : ByteArray := prog_12_method_32_code
def yX10_skips : MethodName := ⟨RX10, "skips", "()V"⟩
abbrev cX10_digitOf : ByteArray := prog_12_method_33_code
def yX10_digitOf : MethodName := ⟨RX10, "digitOf", "(I)I"⟩
abbrev cX10_isLetter : ByteArray := prog_12_method_34_code
def yX10_isLetter : MethodName := ⟨RX10, "isLetter", "()Z"⟩
abbrev cX10_isText : ByteArray := prog_12_method_35_code
def yX10_isText : MethodName := ⟨RX10, "isText", "()Z"⟩
abbrev cX10_load : ByteArray := prog_12_method_36_code
def yX10_load : MethodName := ⟨RX10, "load", "()I"⟩
abbrev cX10_aims : ByteArray := prog_12_method_37_code
def yX10_aims : MethodName := ⟨RX10, "aims", "(II)V"⟩
abbrev cX10_isShow : ByteArray := prog_12_method_38_code
def yX10_isShow : MethodName := ⟨RX10, "isShow", "(II)Z"⟩
abbrev cX10_show : ByteArray := prog_12_method_39_code
def yX10_show : MethodName := ⟨RX10, "show", "(II)I"⟩
abbrev cX10_darken : ByteArray := prog_12_method_40_code
def yX10_darken : MethodName := ⟨RX10, "darken", "()I"⟩
abbrev cX10_isDot : ByteArray := prog_12_method_41_code
def yX10_isDot : MethodName := ⟨RX10, "isDot", "(II)Z"⟩
abbrev cX10_jam : ByteArray := prog_12_method_42_code
def yX10_jam : MethodName := ⟨RX10, "jam", "(II)I"⟩
abbrev cX10_mend : ByteArray := prog_12_method_43_code
def yX10_mend : MethodName := ⟨RX10, "mend", "(II)I"⟩
abbrev cX10_pass : ByteArray := prog_12_method_44_code
def yX10_pass : MethodName := ⟨RX10, "pass", "(I)I"⟩
abbrev cX10_bitsOf : ByteArray := prog_12_method_45_code
def yX10_bitsOf : MethodName := ⟨RX10, "bitsOf", "(I)I"⟩
abbrev cX10_offMany : ByteArray := prog_12_method_46_code
def yX10_offMany : MethodName := ⟨RX10, "offMany", "()I"⟩
abbrev cX10_count : ByteArray := prog_12_method_47_code
def yX10_count : MethodName := ⟨RX10, "count", "(I)I"⟩
abbrev cX10_column : ByteArray := prog_12_method_48_code
def yX10_column : MethodName := ⟨RX10, "column", "(II)I"⟩
abbrev cX10_flips : ByteArray := prog_12_method_49_code
def yX10_flips : MethodName := ⟨RX10, "flips", "(II)I"⟩
abbrev cX10_letter : ByteArray := prog_12_method_50_code
def yX10_letter : MethodName := ⟨RX10, "letter", "(II)I"⟩
abbrev cX10_message : ByteArray := prog_12_method_51_code
def yX10_message : MethodName := ⟨RX10, "message", "(II)I"⟩
abbrev cX10_strip : ByteArray := prog_12_method_52_code
def yX10_strip : MethodName := ⟨RX10, "strip", "(I)I"⟩
abbrev cX10_picture : ByteArray := prog_12_method_53_code
def yX10_picture : MethodName := ⟨RX10, "picture", "(III)I"⟩
abbrev cX10_power : ByteArray := prog_12_method_54_code
def yX10_power : MethodName := ⟨RX10, "power", "(I)I"⟩
abbrev cX10_bestShift : ByteArray := prog_12_method_55_code
def yX10_bestShift : MethodName := ⟨RX10, "bestShift", "(I)I"⟩
abbrev cX10_due : ByteArray := prog_12_method_56_code
def yX10_due : MethodName := ⟨RX10, "due", "(II)I"⟩
abbrev cX10_secondsFor : ByteArray := prog_12_method_57_code
def yX10_secondsFor : MethodName := ⟨RX10, "secondsFor", "(II)I"⟩
abbrev cX10_betweenOf : ByteArray := prog_12_method_58_code
def yX10_betweenOf : MethodName := ⟨RX10, "betweenOf", "(II)I"⟩
abbrev cX10_between : ByteArray := prog_12_method_59_code
def yX10_between : MethodName := ⟨RX10, "between", "(II)I"⟩
abbrev cX10_flipsFor : ByteArray := prog_12_method_60_code
def yX10_flipsFor : MethodName := ⟨RX10, "flipsFor", "()I"⟩
abbrev cX10_swaps : ByteArray := prog_12_method_61_code
def yX10_swaps : MethodName := ⟨RX10, "swaps", "(II)V"⟩
abbrev cX10_goesOn : ByteArray := prog_12_method_62_code
def yX10_goesOn : MethodName := ⟨RX10, "goesOn", "()Z"⟩
abbrev cX10_laysFlips : ByteArray := prog_12_method_63_code
def yX10_laysFlips : MethodName := ⟨RX10, "laysFlips", "()V"⟩
abbrev cX10_bestOrder : ByteArray := prog_12_method_64_code
def yX10_bestOrder : MethodName := ⟨RX10, "bestOrder", "(II)I"⟩
abbrev cX10_undo : ByteArray := prog_12_method_65_code
def yX10_undo : MethodName := ⟨RX10, "undo", "()I"⟩
def RJx8e188 : String := "java/lang/Cloneable"
def RJ6 : String := "java/lang/Integer"
abbrev cJ6_bitCount_0f7a4 : ByteArray := prog_14_method_49_code
def yJ6_bitCount_0f7a4 : MethodName := ⟨RJ6, "bitCount", "(I)I"⟩
def RJ9 : String := "java/lang/Math"
abbrev cJ9_floorMod_7cf53 : ByteArray := prog_15_method_50_code
def yJ9_floorMod_7cf53 : MethodName := ⟨RJ9, "floorMod", "(II)I"⟩
abbrev cJ9_max_7cf53 : ByteArray := prog_15_method_65_code
def yJ9_max_7cf53 : MethodName := ⟨RJ9, "max", "(II)I"⟩
abbrev cJ9_min_7cf53 : ByteArray := prog_15_method_69_code
def yJ9_min_7cf53 : MethodName := ⟨RJ9, "min", "(II)I"⟩
def RJ10 : String := "java/lang/System"
def RJ7 : String := "java/util/Arrays"
abbrev cJ7_fill_53178 : ByteArray := prog_17_method_103_code
def yJ7_fill_53178 : MethodName := ⟨RJ7, "fill", "([II)V"⟩
def RL : String := "FlipBoardLaw"
abbrev cL_law : ByteArray := code
def yL_law : MethodName := ⟨RL, "law", "([I)Z"⟩
abbrev vwCl : List vw_C := [(RX0, TX0, 6), (RX1, TX1, 1), (RX2, TX2, 3), (RX3, TX3, 5), (RX4, TX4, 5), (RX5, TX5, 2), (RX6, TX6, 5), (RX7, TX7, 5), (RX8, TX8, 4), (RX9, TX9, 9), (RX10, TX10, 16)]
