section
-- ===== PART A: goes FIRST, ahead of the names: the tables' words, and 'selects' of the private methods out of them =====
/-- a private method of a class that the tables say can be made, by its rows of tables_1 -/
def lw_okq (q : MethodName × Nat) : Prop := (q.1.cls ≠ "java/lang/invoke/MethodHandle" ∧ q.1.cls ≠ "java/lang/invoke/VarHandle") ∧ Cond.instantiable q.1.cls q.2 ∈ tables_1 ∧ Cond.privateMethod q.1 ∈ tables_1 ∧ Cond.instanceMethod q.1 ∈ tables_1
theorem lw_p0 : lw_okq (⟨"FlipBoard$Reader", "takes", "(I)Z"⟩, 5) := ⟨⟨by decide +kernel, by decide +kernel⟩, List.mem_of_getElem? (i := 194) (by decide +kernel), List.mem_of_getElem? (i := 404) (by decide +kernel), List.mem_of_getElem? (i := 405) (by decide +kernel)⟩
theorem lw_p1 : lw_okq (⟨"FlipBoard$Reader", "takesStart", "(I)Z"⟩, 5) := ⟨⟨by decide +kernel, by decide +kernel⟩, List.mem_of_getElem? (i := 194) (by decide +kernel), List.mem_of_getElem? (i := 408) (by decide +kernel), List.mem_of_getElem? (i := 409) (by decide +kernel)⟩
theorem lw_p2 : lw_okq (⟨"FlipBoard$Reader", "takesEqualsSign", "(I)Z"⟩, 5) := ⟨⟨by decide +kernel, by decide +kernel⟩, List.mem_of_getElem? (i := 194) (by decide +kernel), List.mem_of_getElem? (i := 420) (by decide +kernel), List.mem_of_getElem? (i := 421) (by decide +kernel)⟩
theorem lw_p3 : lw_okq (⟨"FlipBoard$Reader", "takesFirstDigit", "(I)Z"⟩, 5) := ⟨⟨by decide +kernel, by decide +kernel⟩, List.mem_of_getElem? (i := 194) (by decide +kernel), List.mem_of_getElem? (i := 424) (by decide +kernel), List.mem_of_getElem? (i := 425) (by decide +kernel)⟩
theorem lw_p4 : lw_okq (⟨"FlipBoard$Reader", "endItem", "()V"⟩, 5) := ⟨⟨by decide +kernel, by decide +kernel⟩, List.mem_of_getElem? (i := 194) (by decide +kernel), List.mem_of_getElem? (i := 429) (by decide +kernel), List.mem_of_getElem? (i := 430) (by decide +kernel)⟩
theorem lw_p5 : lw_okq (⟨"FlipBoard$Reader", "takesSecondDigit", "(I)Z"⟩, 5) := ⟨⟨by decide +kernel, by decide +kernel⟩, List.mem_of_getElem? (i := 194) (by decide +kernel), List.mem_of_getElem? (i := 436) (by decide +kernel), List.mem_of_getElem? (i := 437) (by decide +kernel)⟩
theorem lw_p6 : lw_okq (⟨"FlipBoard$Reader", "takesCharacter", "(I)Z"⟩, 5) := ⟨⟨by decide +kernel, by decide +kernel⟩, List.mem_of_getElem? (i := 194) (by decide +kernel), List.mem_of_getElem? (i := 441) (by decide +kernel), List.mem_of_getElem? (i := 442) (by decide +kernel)⟩
theorem lw_p7 : lw_okq (⟨"FlipBoard", "canShow", "(II)Z"⟩, 9) := ⟨⟨by decide +kernel, by decide +kernel⟩, List.mem_of_getElem? (i := 17) (by decide +kernel), List.mem_of_getElem? (i := 452) (by decide +kernel), List.mem_of_getElem? (i := 453) (by decide +kernel)⟩
theorem lw_p8 : lw_okq (⟨"FlipBoard$Flipper", "arrange", "(LFlipBoard$Dots;I)V"⟩, 1) := ⟨⟨by decide +kernel, by decide +kernel⟩, List.mem_of_getElem? (i := 184) (by decide +kernel), List.mem_of_getElem? (i := 560) (by decide +kernel), List.mem_of_getElem? (i := 561) (by decide +kernel)⟩
theorem lw_p9 : lw_okq (⟨"FlipBoard$Flipper", "arrangeByDueDots", "(LFlipBoard$Dots;)V"⟩, 1) := ⟨⟨by decide +kernel, by decide +kernel⟩, List.mem_of_getElem? (i := 184) (by decide +kernel), List.mem_of_getElem? (i := 564) (by decide +kernel), List.mem_of_getElem? (i := 565) (by decide +kernel)⟩
theorem lw_p10 : lw_okq (⟨"FlipBoard$Flipper", "flipColumn", "(LFlipBoard$State;II)I"⟩, 1) := ⟨⟨by decide +kernel, by decide +kernel⟩, List.mem_of_getElem? (i := 184) (by decide +kernel), List.mem_of_getElem? (i := 573) (by decide +kernel), List.mem_of_getElem? (i := 574) (by decide +kernel)⟩
theorem lw_p11 : lw_okq (⟨"FlipBoard", "isSetToOrder", "(I)Z"⟩, 9) := ⟨⟨by decide +kernel, by decide +kernel⟩, List.mem_of_getElem? (i := 17) (by decide +kernel), List.mem_of_getElem? (i := 677) (by decide +kernel), List.mem_of_getElem? (i := 678) (by decide +kernel)⟩
theorem lw_p12 : lw_okq (⟨"FlipBoard$Orders", "gather", "(LFlipBoard$State;ILFlipBoard$Painter;)V"⟩, 5) := ⟨⟨by decide +kernel, by decide +kernel⟩, List.mem_of_getElem? (i := 220) (by decide +kernel), List.mem_of_getElem? (i := 686) (by decide +kernel), List.mem_of_getElem? (i := 687) (by decide +kernel)⟩
theorem lw_p13 : lw_okq (⟨"FlipBoard$Orders", "measure", "(LFlipBoard$Dots;)V"⟩, 5) := ⟨⟨by decide +kernel, by decide +kernel⟩, List.mem_of_getElem? (i := 220) (by decide +kernel), List.mem_of_getElem? (i := 692) (by decide +kernel), List.mem_of_getElem? (i := 693) (by decide +kernel)⟩
theorem lw_p14 : lw_okq (⟨"FlipBoard$Orders", "wholeSet", "()I"⟩, 5) := ⟨⟨by decide +kernel, by decide +kernel⟩, List.mem_of_getElem? (i := 220) (by decide +kernel), List.mem_of_getElem? (i := 697) (by decide +kernel), List.mem_of_getElem? (i := 698) (by decide +kernel)⟩
theorem lw_p15 : lw_okq (⟨"FlipBoard$Orders", "nextBehind", "(II)I"⟩, 5) := ⟨⟨by decide +kernel, by decide +kernel⟩, List.mem_of_getElem? (i := 220) (by decide +kernel), List.mem_of_getElem? (i := 701) (by decide +kernel), List.mem_of_getElem? (i := 702) (by decide +kernel)⟩
def lw_privs_1 : List (MethodName × Nat) := [(⟨"FlipBoard$Reader", "takes", "(I)Z"⟩, 5), (⟨"FlipBoard$Reader", "takesStart", "(I)Z"⟩, 5), (⟨"FlipBoard$Reader", "takesEqualsSign", "(I)Z"⟩, 5), (⟨"FlipBoard$Reader", "takesFirstDigit", "(I)Z"⟩, 5), (⟨"FlipBoard$Reader", "endItem", "()V"⟩, 5), (⟨"FlipBoard$Reader", "takesSecondDigit", "(I)Z"⟩, 5), (⟨"FlipBoard$Reader", "takesCharacter", "(I)Z"⟩, 5), (⟨"FlipBoard", "canShow", "(II)Z"⟩, 9), (⟨"FlipBoard$Flipper", "arrange", "(LFlipBoard$Dots;I)V"⟩, 1), (⟨"FlipBoard$Flipper", "arrangeByDueDots", "(LFlipBoard$Dots;)V"⟩, 1), (⟨"FlipBoard$Flipper", "flipColumn", "(LFlipBoard$State;II)I"⟩, 1), (⟨"FlipBoard", "isSetToOrder", "(I)Z"⟩, 9), (⟨"FlipBoard$Orders", "gather", "(LFlipBoard$State;ILFlipBoard$Painter;)V"⟩, 5), (⟨"FlipBoard$Orders", "measure", "(LFlipBoard$Dots;)V"⟩, 5), (⟨"FlipBoard$Orders", "wholeSet", "()I"⟩, 5), (⟨"FlipBoard$Orders", "nextBehind", "(II)I"⟩, 5)]
theorem lw_r1 : ∀ q ∈ lw_privs_1, lw_okq q := List.forall_mem_cons.mpr ⟨lw_p0, List.forall_mem_cons.mpr ⟨lw_p1, List.forall_mem_cons.mpr ⟨lw_p2, List.forall_mem_cons.mpr ⟨lw_p3, List.forall_mem_cons.mpr ⟨lw_p4, List.forall_mem_cons.mpr ⟨lw_p5, List.forall_mem_cons.mpr ⟨lw_p6, List.forall_mem_cons.mpr ⟨lw_p7, List.forall_mem_cons.mpr ⟨lw_p8, List.forall_mem_cons.mpr ⟨lw_p9, List.forall_mem_cons.mpr ⟨lw_p10, List.forall_mem_cons.mpr ⟨lw_p11, List.forall_mem_cons.mpr ⟨lw_p12, List.forall_mem_cons.mpr ⟨lw_p13, List.forall_mem_cons.mpr ⟨lw_p14, List.forall_mem_cons.mpr ⟨lw_p15, fun _ h => absurd h List.not_mem_nil⟩⟩⟩⟩⟩⟩⟩⟩⟩⟩⟩⟩⟩⟩⟩⟩
theorem lw_p16 : lw_okq (⟨"FlipBoard$Orders", "flipsBy", "(III)I"⟩, 5) := ⟨⟨by decide +kernel, by decide +kernel⟩, List.mem_of_getElem? (i := 220) (by decide +kernel), List.mem_of_getElem? (i := 709) (by decide +kernel), List.mem_of_getElem? (i := 710) (by decide +kernel)⟩
theorem lw_p17 : lw_okq (⟨"FlipBoardModel", "hold", "()V"⟩, 16) := ⟨⟨by decide +kernel, by decide +kernel⟩, List.mem_of_getElem? (i := 729) (by decide +kernel), List.mem_of_getElem? (i := 791) (by decide +kernel), List.mem_of_getElem? (i := 792) (by decide +kernel)⟩
theorem lw_p18 : lw_okq (⟨"FlipBoardModel", "ends", "(I)I"⟩, 16) := ⟨⟨by decide +kernel, by decide +kernel⟩, List.mem_of_getElem? (i := 729) (by decide +kernel), List.mem_of_getElem? (i := 798) (by decide +kernel), List.mem_of_getElem? (i := 799) (by decide +kernel)⟩
theorem lw_p19 : lw_okq (⟨"FlipBoardModel", "isMessage", "(I)Z"⟩, 16) := ⟨⟨by decide +kernel, by decide +kernel⟩, List.mem_of_getElem? (i := 729) (by decide +kernel), List.mem_of_getElem? (i := 821) (by decide +kernel), List.mem_of_getElem? (i := 822) (by decide +kernel)⟩
theorem lw_p20 : lw_okq (⟨"FlipBoardModel", "skips", "()V"⟩, 16) := ⟨⟨by decide +kernel, by decide +kernel⟩, List.mem_of_getElem? (i := 729) (by decide +kernel), List.mem_of_getElem? (i := 837) (by decide +kernel), List.mem_of_getElem? (i := 838) (by decide +kernel)⟩
theorem lw_p21 : lw_okq (⟨"FlipBoardModel", "here", "()I"⟩, 16) := ⟨⟨by decide +kernel, by decide +kernel⟩, List.mem_of_getElem? (i := 729) (by decide +kernel), List.mem_of_getElem? (i := 841) (by decide +kernel), List.mem_of_getElem? (i := 842) (by decide +kernel)⟩
theorem lw_p22 : lw_okq (⟨"FlipBoardModel", "isLetter", "()Z"⟩, 16) := ⟨⟨by decide +kernel, by decide +kernel⟩, List.mem_of_getElem? (i := 729) (by decide +kernel), List.mem_of_getElem? (i := 845) (by decide +kernel), List.mem_of_getElem? (i := 846) (by decide +kernel)⟩
theorem lw_p23 : lw_okq (⟨"FlipBoardModel", "isText", "()Z"⟩, 16) := ⟨⟨by decide +kernel, by decide +kernel⟩, List.mem_of_getElem? (i := 729) (by decide +kernel), List.mem_of_getElem? (i := 852) (by decide +kernel), List.mem_of_getElem? (i := 853) (by decide +kernel)⟩
theorem lw_p24 : lw_okq (⟨"FlipBoardModel", "isShow", "(II)Z"⟩, 16) := ⟨⟨by decide +kernel, by decide +kernel⟩, List.mem_of_getElem? (i := 729) (by decide +kernel), List.mem_of_getElem? (i := 860) (by decide +kernel), List.mem_of_getElem? (i := 861) (by decide +kernel)⟩
theorem lw_p25 : lw_okq (⟨"FlipBoardModel", "aims", "(II)V"⟩, 16) := ⟨⟨by decide +kernel, by decide +kernel⟩, List.mem_of_getElem? (i := 729) (by decide +kernel), List.mem_of_getElem? (i := 864) (by decide +kernel), List.mem_of_getElem? (i := 865) (by decide +kernel)⟩
theorem lw_p26 : lw_okq (⟨"FlipBoardModel", "shiftFor", "(II)I"⟩, 16) := ⟨⟨by decide +kernel, by decide +kernel⟩, List.mem_of_getElem? (i := 729) (by decide +kernel), List.mem_of_getElem? (i := 868) (by decide +kernel), List.mem_of_getElem? (i := 869) (by decide +kernel)⟩
theorem lw_p27 : lw_okq (⟨"FlipBoardModel", "bestOf", "(I)I"⟩, 16) := ⟨⟨by decide +kernel, by decide +kernel⟩, List.mem_of_getElem? (i := 729) (by decide +kernel), List.mem_of_getElem? (i := 872) (by decide +kernel), List.mem_of_getElem? (i := 873) (by decide +kernel)⟩
theorem lw_p28 : lw_okq (⟨"FlipBoardModel", "lays", "(II[I)V"⟩, 16) := ⟨⟨by decide +kernel, by decide +kernel⟩, List.mem_of_getElem? (i := 729) (by decide +kernel), List.mem_of_getElem? (i := 876) (by decide +kernel), List.mem_of_getElem? (i := 877) (by decide +kernel)⟩
theorem lw_p29 : lw_okq (⟨"FlipBoardModel", "stripOf", "(I)I"⟩, 16) := ⟨⟨by decide +kernel, by decide +kernel⟩, List.mem_of_getElem? (i := 729) (by decide +kernel), List.mem_of_getElem? (i := 880) (by decide +kernel), List.mem_of_getElem? (i := 881) (by decide +kernel)⟩
theorem lw_p30 : lw_okq (⟨"FlipBoardModel", "lengthOf", "(I)I"⟩, 16) := ⟨⟨by decide +kernel, by decide +kernel⟩, List.mem_of_getElem? (i := 729) (by decide +kernel), List.mem_of_getElem? (i := 884) (by decide +kernel), List.mem_of_getElem? (i := 885) (by decide +kernel)⟩
theorem lw_p31 : lw_okq (⟨"FlipBoardModel", "characterOf", "(II)I"⟩, 16) := ⟨⟨by decide +kernel, by decide +kernel⟩, List.mem_of_getElem? (i := 729) (by decide +kernel), List.mem_of_getElem? (i := 888) (by decide +kernel), List.mem_of_getElem? (i := 889) (by decide +kernel)⟩
def lw_privs_2 : List (MethodName × Nat) := [(⟨"FlipBoard$Orders", "flipsBy", "(III)I"⟩, 5), (⟨"FlipBoardModel", "hold", "()V"⟩, 16), (⟨"FlipBoardModel", "ends", "(I)I"⟩, 16), (⟨"FlipBoardModel", "isMessage", "(I)Z"⟩, 16), (⟨"FlipBoardModel", "skips", "()V"⟩, 16), (⟨"FlipBoardModel", "here", "()I"⟩, 16), (⟨"FlipBoardModel", "isLetter", "()Z"⟩, 16), (⟨"FlipBoardModel", "isText", "()Z"⟩, 16), (⟨"FlipBoardModel", "isShow", "(II)Z"⟩, 16), (⟨"FlipBoardModel", "aims", "(II)V"⟩, 16), (⟨"FlipBoardModel", "shiftFor", "(II)I"⟩, 16), (⟨"FlipBoardModel", "bestOf", "(I)I"⟩, 16), (⟨"FlipBoardModel", "lays", "(II[I)V"⟩, 16), (⟨"FlipBoardModel", "stripOf", "(I)I"⟩, 16), (⟨"FlipBoardModel", "lengthOf", "(I)I"⟩, 16), (⟨"FlipBoardModel", "characterOf", "(II)I"⟩, 16)]
theorem lw_r2 : ∀ q ∈ lw_privs_2, lw_okq q := List.forall_mem_cons.mpr ⟨lw_p16, List.forall_mem_cons.mpr ⟨lw_p17, List.forall_mem_cons.mpr ⟨lw_p18, List.forall_mem_cons.mpr ⟨lw_p19, List.forall_mem_cons.mpr ⟨lw_p20, List.forall_mem_cons.mpr ⟨lw_p21, List.forall_mem_cons.mpr ⟨lw_p22, List.forall_mem_cons.mpr ⟨lw_p23, List.forall_mem_cons.mpr ⟨lw_p24, List.forall_mem_cons.mpr ⟨lw_p25, List.forall_mem_cons.mpr ⟨lw_p26, List.forall_mem_cons.mpr ⟨lw_p27, List.forall_mem_cons.mpr ⟨lw_p28, List.forall_mem_cons.mpr ⟨lw_p29, List.forall_mem_cons.mpr ⟨lw_p30, List.forall_mem_cons.mpr ⟨lw_p31, fun _ h => absurd h List.not_mem_nil⟩⟩⟩⟩⟩⟩⟩⟩⟩⟩⟩⟩⟩⟩⟩⟩
theorem lw_p32 : lw_okq (⟨"FlipBoardModel", "wideOf", "(I)I"⟩, 16) := ⟨⟨by decide +kernel, by decide +kernel⟩, List.mem_of_getElem? (i := 729) (by decide +kernel), List.mem_of_getElem? (i := 892) (by decide +kernel), List.mem_of_getElem? (i := 893) (by decide +kernel)⟩
theorem lw_p33 : lw_okq (⟨"FlipBoardModel", "isColumn", "(I)Z"⟩, 16) := ⟨⟨by decide +kernel, by decide +kernel⟩, List.mem_of_getElem? (i := 729) (by decide +kernel), List.mem_of_getElem? (i := 896) (by decide +kernel), List.mem_of_getElem? (i := 897) (by decide +kernel)⟩
theorem lw_p34 : lw_okq (⟨"FlipBoardModel", "differs", "([II[IZ)I"⟩, 16) := ⟨⟨by decide +kernel, by decide +kernel⟩, List.mem_of_getElem? (i := 729) (by decide +kernel), List.mem_of_getElem? (i := 900) (by decide +kernel), List.mem_of_getElem? (i := 901) (by decide +kernel)⟩
theorem lw_p35 : lw_okq (⟨"FlipBoardModel", "dueMany", "()I"⟩, 16) := ⟨⟨by decide +kernel, by decide +kernel⟩, List.mem_of_getElem? (i := 729) (by decide +kernel), List.mem_of_getElem? (i := 907) (by decide +kernel), List.mem_of_getElem? (i := 908) (by decide +kernel)⟩
theorem lw_p36 : lw_okq (⟨"FlipBoardModel", "dueOf", "(I)I"⟩, 16) := ⟨⟨by decide +kernel, by decide +kernel⟩, List.mem_of_getElem? (i := 729) (by decide +kernel), List.mem_of_getElem? (i := 911) (by decide +kernel), List.mem_of_getElem? (i := 912) (by decide +kernel)⟩
theorem lw_p37 : lw_okq (⟨"FlipBoardModel", "isDot", "(II)Z"⟩, 16) := ⟨⟨by decide +kernel, by decide +kernel⟩, List.mem_of_getElem? (i := 729) (by decide +kernel), List.mem_of_getElem? (i := 923) (by decide +kernel), List.mem_of_getElem? (i := 924) (by decide +kernel)⟩
theorem lw_p38 : lw_okq (⟨"FlipBoardModel", "second", "()V"⟩, 16) := ⟨⟨by decide +kernel, by decide +kernel⟩, List.mem_of_getElem? (i := 729) (by decide +kernel), List.mem_of_getElem? (i := 935) (by decide +kernel), List.mem_of_getElem? (i := 936) (by decide +kernel)⟩
theorem lw_p39 : lw_okq (⟨"FlipBoardModel", "nextColumn", "(I)I"⟩, 16) := ⟨⟨by decide +kernel, by decide +kernel⟩, List.mem_of_getElem? (i := 729) (by decide +kernel), List.mem_of_getElem? (i := 939) (by decide +kernel), List.mem_of_getElem? (i := 940) (by decide +kernel)⟩
theorem lw_p40 : lw_okq (⟨"FlipBoardModel", "flipsAt", "(II)V"⟩, 16) := ⟨⟨by decide +kernel, by decide +kernel⟩, List.mem_of_getElem? (i := 729) (by decide +kernel), List.mem_of_getElem? (i := 943) (by decide +kernel), List.mem_of_getElem? (i := 944) (by decide +kernel)⟩
theorem lw_p41 : lw_okq (⟨"FlipBoardModel", "bitsOf", "(I)I"⟩, 16) := ⟨⟨by decide +kernel, by decide +kernel⟩, List.mem_of_getElem? (i := 729) (by decide +kernel), List.mem_of_getElem? (i := 951) (by decide +kernel), List.mem_of_getElem? (i := 952) (by decide +kernel)⟩
theorem lw_p42 : lw_okq (⟨"FlipBoardModel", "offMany", "()I"⟩, 16) := ⟨⟨by decide +kernel, by decide +kernel⟩, List.mem_of_getElem? (i := 729) (by decide +kernel), List.mem_of_getElem? (i := 955) (by decide +kernel), List.mem_of_getElem? (i := 956) (by decide +kernel)⟩
theorem lw_p43 : lw_okq (⟨"FlipBoardModel", "betweenOf", "(II)I"⟩, 16) := ⟨⟨by decide +kernel, by decide +kernel⟩, List.mem_of_getElem? (i := 729) (by decide +kernel), List.mem_of_getElem? (i := 1003) (by decide +kernel), List.mem_of_getElem? (i := 1004) (by decide +kernel)⟩
theorem lw_p44 : lw_okq (⟨"FlipBoardModel", "laysFlips", "()V"⟩, 16) := ⟨⟨by decide +kernel, by decide +kernel⟩, List.mem_of_getElem? (i := 729) (by decide +kernel), List.mem_of_getElem? (i := 1011) (by decide +kernel), List.mem_of_getElem? (i := 1012) (by decide +kernel)⟩
theorem lw_p45 : lw_okq (⟨"FlipBoardModel", "flipsFor", "()I"⟩, 16) := ⟨⟨by decide +kernel, by decide +kernel⟩, List.mem_of_getElem? (i := 729) (by decide +kernel), List.mem_of_getElem? (i := 1015) (by decide +kernel), List.mem_of_getElem? (i := 1016) (by decide +kernel)⟩
theorem lw_p46 : lw_okq (⟨"FlipBoardModel", "goesOn", "()Z"⟩, 16) := ⟨⟨by decide +kernel, by decide +kernel⟩, List.mem_of_getElem? (i := 729) (by decide +kernel), List.mem_of_getElem? (i := 1019) (by decide +kernel), List.mem_of_getElem? (i := 1020) (by decide +kernel)⟩
theorem lw_p47 : lw_okq (⟨"FlipBoardModel", "swaps", "(II)V"⟩, 16) := ⟨⟨by decide +kernel, by decide +kernel⟩, List.mem_of_getElem? (i := 729) (by decide +kernel), List.mem_of_getElem? (i := 1023) (by decide +kernel), List.mem_of_getElem? (i := 1024) (by decide +kernel)⟩
def lw_privs_3 : List (MethodName × Nat) := [(⟨"FlipBoardModel", "wideOf", "(I)I"⟩, 16), (⟨"FlipBoardModel", "isColumn", "(I)Z"⟩, 16), (⟨"FlipBoardModel", "differs", "([II[IZ)I"⟩, 16), (⟨"FlipBoardModel", "dueMany", "()I"⟩, 16), (⟨"FlipBoardModel", "dueOf", "(I)I"⟩, 16), (⟨"FlipBoardModel", "isDot", "(II)Z"⟩, 16), (⟨"FlipBoardModel", "second", "()V"⟩, 16), (⟨"FlipBoardModel", "nextColumn", "(I)I"⟩, 16), (⟨"FlipBoardModel", "flipsAt", "(II)V"⟩, 16), (⟨"FlipBoardModel", "bitsOf", "(I)I"⟩, 16), (⟨"FlipBoardModel", "offMany", "()I"⟩, 16), (⟨"FlipBoardModel", "betweenOf", "(II)I"⟩, 16), (⟨"FlipBoardModel", "laysFlips", "()V"⟩, 16), (⟨"FlipBoardModel", "flipsFor", "()I"⟩, 16), (⟨"FlipBoardModel", "goesOn", "()Z"⟩, 16), (⟨"FlipBoardModel", "swaps", "(II)V"⟩, 16)]
theorem lw_r3 : ∀ q ∈ lw_privs_3, lw_okq q := List.forall_mem_cons.mpr ⟨lw_p32, List.forall_mem_cons.mpr ⟨lw_p33, List.forall_mem_cons.mpr ⟨lw_p34, List.forall_mem_cons.mpr ⟨lw_p35, List.forall_mem_cons.mpr ⟨lw_p36, List.forall_mem_cons.mpr ⟨lw_p37, List.forall_mem_cons.mpr ⟨lw_p38, List.forall_mem_cons.mpr ⟨lw_p39, List.forall_mem_cons.mpr ⟨lw_p40, List.forall_mem_cons.mpr ⟨lw_p41, List.forall_mem_cons.mpr ⟨lw_p42, List.forall_mem_cons.mpr ⟨lw_p43, List.forall_mem_cons.mpr ⟨lw_p44, List.forall_mem_cons.mpr ⟨lw_p45, List.forall_mem_cons.mpr ⟨lw_p46, List.forall_mem_cons.mpr ⟨lw_p47, fun _ h => absurd h List.not_mem_nil⟩⟩⟩⟩⟩⟩⟩⟩⟩⟩⟩⟩⟩⟩⟩⟩
def lw_privs : List (MethodName × Nat) := lw_privs_1 ++ (lw_privs_2 ++ (lw_privs_3))
def lw_tbl : List Cond := k2_sels lw_privs ++ tables_1
theorem lw_privs_ok : ∀ q ∈ lw_privs, lw_okq q := by
  show ∀ q ∈ lw_privs_1 ++ (lw_privs_2 ++ (lw_privs_3)), lw_okq q
  exact List.forall_mem_append.mpr ⟨lw_r1, List.forall_mem_append.mpr ⟨lw_r2, lw_r3⟩⟩

def RX0 : String := "FlipBoard$Dots"
def TX0 : u_T := fun k => match k with
  | 0 => ("FlipBoard$Dots", "width", "I", false)
  | 1 => ("FlipBoard$Dots", "shown", "[I", true)
  | 2 => ("FlipBoard$Dots", "aim", "[I", true)
  | 3 => ("FlipBoard$Dots", "stuck", "[I", true)
  | 4 => ("FlipBoard$Dots", "known", "[I", true)
  | _ => ("FlipBoard$Dots", "flips", "[I", true)
def tyX0 : Nat → FieldType := fun k => match k with
  | 0 => .int
  | 1 => .array .int
  | 2 => .array .int
  | 3 => .array .int
  | 4 => .array .int
  | _ => .array .int
theorem nmX0 : ∀ a, a < 6 → ∀ b, b < 6 → a ≠ b → (TX0 a).2.1 ≠ (TX0 b).2.1 := by decide +kernel
theorem tyX0_ok : ∀ k, k < 6 → parseFieldDescriptor (TX0 k).2.2.1 = some (tyX0 k) := by decide +kernel
abbrev cX0_init : ByteArray := prog_2_method_1_code
def yX0_init : MethodName := ⟨RX0, "<init>", "()V"⟩
abbrev cX0_copyFrom : ByteArray := prog_2_method_2_code
def yX0_copyFrom : MethodName := ⟨RX0, "copyFrom", "(LFlipBoard$Dots;)V"⟩
abbrev cX0_renew : ByteArray := prog_2_method_3_code
def yX0_renew : MethodName := ⟨RX0, "renew", "(I)V"⟩
abbrev cX0_hasColumn : ByteArray := prog_2_method_4_code
def yX0_hasColumn : MethodName := ⟨RX0, "hasColumn", "(I)Z"⟩
abbrev cX0_hasDot : ByteArray := prog_2_method_5_code
def yX0_hasDot : MethodName := ⟨RX0, "hasDot", "(II)Z"⟩
abbrev cX0_aimAt : ByteArray := prog_2_method_6_code
def yX0_aimAt : MethodName := ⟨RX0, "aimAt", "([I)V"⟩
abbrev cX0_aimAtDark : ByteArray := prog_2_method_7_code
def yX0_aimAtDark : MethodName := ⟨RX0, "aimAtDark", "()V"⟩
abbrev cX0_dueBits : ByteArray := prog_2_method_8_code
def yX0_dueBits : MethodName := ⟨RX0, "dueBits", "(I)I"⟩
abbrev cX0_dueDots : ByteArray := prog_2_method_9_code
def yX0_dueDots : MethodName := ⟨RX0, "dueDots", "()I"⟩
abbrev cX0_differing : ByteArray := prog_2_method_10_code
def yX0_differing : MethodName := ⟨RX0, "differing", "([I[I)I"⟩
abbrev cX0_stuckDots : ByteArray := prog_2_method_11_code
def yX0_stuckDots : MethodName := ⟨RX0, "stuckDots", "()I"⟩
abbrev cX0_knownDots : ByteArray := prog_2_method_12_code
def yX0_knownDots : MethodName := ⟨RX0, "knownDots", "()I"⟩
abbrev cX0_dotsIn : ByteArray := prog_2_method_13_code
def yX0_dotsIn : MethodName := ⟨RX0, "dotsIn", "([I)I"⟩
abbrev cX0_otherDots : ByteArray := prog_2_method_14_code
def yX0_otherDots : MethodName := ⟨RX0, "otherDots", "()I"⟩
abbrev cX0_knownAgainst : ByteArray := prog_2_method_15_code
def yX0_knownAgainst : MethodName := ⟨RX0, "knownAgainst", "([I)I"⟩
abbrev cX0_isStuck : ByteArray := prog_2_method_16_code
def yX0_isStuck : MethodName := ⟨RX0, "isStuck", "(II)Z"⟩
abbrev cX0_stick : ByteArray := prog_2_method_17_code
def yX0_stick : MethodName := ⟨RX0, "stick", "(II)V"⟩
abbrev cX0_makeKnown : ByteArray := prog_2_method_18_code
def yX0_makeKnown : MethodName := ⟨RX0, "makeKnown", "(II)V"⟩
abbrev cX0_flip : ByteArray := prog_2_method_19_code
def yX0_flip : MethodName := ⟨RX0, "flip", "(II)V"⟩
abbrev cX0_flipsOf : ByteArray := prog_2_method_20_code
def yX0_flipsOf : MethodName := ⟨RX0, "flipsOf", "(II)I"⟩
abbrev cX0_renewDot : ByteArray := prog_2_method_21_code
def yX0_renewDot : MethodName := ⟨RX0, "renewDot", "(II)V"⟩
def RX1 : String := "FlipBoard$Flipper"
def TX1 : u_T := fun k => match k with
  | _ => ("FlipBoard$Flipper", "sequence", "[I", true)
def tyX1 : Nat → FieldType := fun k => match k with
  | _ => .array .int
theorem nmX1 : ∀ a, a < 1 → ∀ b, b < 1 → a ≠ b → (TX1 a).2.1 ≠ (TX1 b).2.1 := by decide +kernel
theorem tyX1_ok : ∀ k, k < 1 → parseFieldDescriptor (TX1 k).2.2.1 = some (tyX1 k) := by decide +kernel
abbrev cX1_init : ByteArray := prog_3_method_1_code
def yX1_init : MethodName := ⟨RX1, "<init>", "()V"⟩
abbrev cX1_passSecond : ByteArray := prog_3_method_2_code
def yX1_passSecond : MethodName := ⟨RX1, "passSecond", "(LFlipBoard$State;)V"⟩
abbrev cX1_flipColumn : ByteArray := prog_3_method_3_code
def yX1_flipColumn : MethodName := ⟨RX1, "flipColumn", "(LFlipBoard$State;II)I"⟩
abbrev cX1_arrange : ByteArray := prog_3_method_4_code
def yX1_arrange : MethodName := ⟨RX1, "arrange", "(LFlipBoard$Dots;I)V"⟩
abbrev cX1_arrangeByDueDots : ByteArray := prog_3_method_5_code
def yX1_arrangeByDueDots : MethodName := ⟨RX1, "arrangeByDueDots", "(LFlipBoard$Dots;)V"⟩
def RX2 : String := "FlipBoard$History"
def TX2 : u_T := fun k => match k with
  | 0 => ("FlipBoard$History", "states", "[LFlipBoard$State;", true)
  | 1 => ("FlipBoard$History", "first", "I", false)
  | _ => ("FlipBoard$History", "size", "I", false)
def tyX2 : Nat → FieldType := fun k => match k with
  | 0 => .array (.object "FlipBoard$State")
  | 1 => .int
  | _ => .int
theorem nmX2 : ∀ a, a < 3 → ∀ b, b < 3 → a ≠ b → (TX2 a).2.1 ≠ (TX2 b).2.1 := by decide +kernel
theorem tyX2_ok : ∀ k, k < 3 → parseFieldDescriptor (TX2 k).2.2.1 = some (tyX2 k) := by decide +kernel
abbrev cX2_init : ByteArray := prog_4_method_1_code
def yX2_init : MethodName := ⟨RX2, "<init>", "()V"⟩
abbrev cX2_keep : ByteArray := prog_4_method_2_code
def yX2_keep : MethodName := ⟨RX2, "keep", "(LFlipBoard$State;)V"⟩
abbrev cX2_restore : ByteArray := prog_4_method_3_code
def yX2_restore : MethodName := ⟨RX2, "restore", "(LFlipBoard$State;)V"⟩
abbrev cX2_stateAt : ByteArray := prog_4_method_4_code
def yX2_stateAt : MethodName := ⟨RX2, "stateAt", "(I)LFlipBoard$State;"⟩
def RX3 : String := "FlipBoard$Meter"
def TX3 : u_T := fun k => match k with
  | 0 => ("FlipBoard$Meter", "flips", "I", false)
  | 1 => ("FlipBoard$Meter", "tries", "I", false)
  | 2 => ("FlipBoard$Meter", "power", "I", false)
  | 3 => ("FlipBoard$Meter", "seconds", "I", false)
  | _ => ("FlipBoard$Meter", "recent", "[I", true)
def tyX3 : Nat → FieldType := fun k => match k with
  | 0 => .int
  | 1 => .int
  | 2 => .int
  | 3 => .int
  | _ => .array .int
theorem nmX3 : ∀ a, a < 5 → ∀ b, b < 5 → a ≠ b → (TX3 a).2.1 ≠ (TX3 b).2.1 := by decide +kernel
theorem tyX3_ok : ∀ k, k < 5 → parseFieldDescriptor (TX3 k).2.2.1 = some (tyX3 k) := by decide +kernel
abbrev cX3_init : ByteArray := prog_5_method_1_code
def yX3_init : MethodName := ⟨RX3, "<init>", "()V"⟩
abbrev cX3_copyFrom : ByteArray := prog_5_method_2_code
def yX3_copyFrom : MethodName := ⟨RX3, "copyFrom", "(LFlipBoard$Meter;)V"⟩
abbrev cX3_renew : ByteArray := prog_5_method_3_code
def yX3_renew : MethodName := ⟨RX3, "renew", "()V"⟩
abbrev cX3_addSecond : ByteArray := prog_5_method_4_code
def yX3_addSecond : MethodName := ⟨RX3, "addSecond", "(I)V"⟩
abbrev cX3_powerOf : ByteArray := prog_5_method_5_code
def yX3_powerOf : MethodName := ⟨RX3, "powerOf", "(I)I"⟩
def RX4 : String := "FlipBoard$Orders"
def TX4 : u_T := fun k => match k with
  | 0 => ("FlipBoard$Orders", "members", "[I", true)
  | 1 => ("FlipBoard$Orders", "pictures", "[[I", true)
  | 2 => ("FlipBoard$Orders", "steps", "[[I", true)
  | 3 => ("FlipBoard$Orders", "fewest", "[[I", true)
  | _ => ("FlipBoard$Orders", "size", "I", false)
def tyX4 : Nat → FieldType := fun k => match k with
  | 0 => .array .int
  | 1 => .array (.array .int)
  | 2 => .array (.array .int)
  | 3 => .array (.array .int)
  | _ => .int
theorem nmX4 : ∀ a, a < 5 → ∀ b, b < 5 → a ≠ b → (TX4 a).2.1 ≠ (TX4 b).2.1 := by decide +kernel
theorem tyX4_ok : ∀ k, k < 5 → parseFieldDescriptor (TX4 k).2.2.1 = some (tyX4 k) := by decide +kernel
abbrev cX4_init : ByteArray := prog_6_method_1_code
def yX4_init : MethodName := ⟨RX4, "<init>", "()V"⟩
abbrev cX4_find : ByteArray := prog_6_method_2_code
def yX4_find : MethodName := ⟨RX4, "find", "(LFlipBoard$State;ILFlipBoard$Painter;)V"⟩
abbrev cX4_fewestFlips : ByteArray := prog_6_method_3_code
def yX4_fewestFlips : MethodName := ⟨RX4, "fewestFlips", "()I"⟩
abbrev cX4_messageAt : ByteArray := prog_6_method_4_code
def yX4_messageAt : MethodName := ⟨RX4, "messageAt", "(I)I"⟩
abbrev cX4_gather : ByteArray := prog_6_method_5_code
def yX4_gather : MethodName := ⟨RX4, "gather", "(LFlipBoard$State;ILFlipBoard$Painter;)V"⟩
abbrev cX4_measure : ByteArray := prog_6_method_6_code
def yX4_measure : MethodName := ⟨RX4, "measure", "(LFlipBoard$Dots;)V"⟩
abbrev cX4_nextBehind : ByteArray := prog_6_method_7_code
def yX4_nextBehind : MethodName := ⟨RX4, "nextBehind", "(II)I"⟩
abbrev cX4_flipsBy : ByteArray := prog_6_method_8_code
def yX4_flipsBy : MethodName := ⟨RX4, "flipsBy", "(III)I"⟩
abbrev cX4_wholeSet : ByteArray := prog_6_method_9_code
def yX4_wholeSet : MethodName := ⟨RX4, "wholeSet", "()I"⟩
abbrev cX4_without : ByteArray := prog_6_method_10_code
def yX4_without : MethodName := ⟨RX4, "without", "(II)I"⟩
def RX5 : String := "FlipBoard$Painter"
def TX5 : u_T := fun k => match k with
  | 0 => ("FlipBoard$Painter", "picture", "[I", true)
  | _ => ("FlipBoard$Painter", "otherPicture", "[I", true)
def tyX5 : Nat → FieldType := fun k => match k with
  | 0 => .array .int
  | _ => .array .int
theorem nmX5 : ∀ a, a < 2 → ∀ b, b < 2 → a ≠ b → (TX5 a).2.1 ≠ (TX5 b).2.1 := by decide +kernel
theorem tyX5_ok : ∀ k, k < 2 → parseFieldDescriptor (TX5 k).2.2.1 = some (tyX5 k) := by decide +kernel
abbrev cX5_init : ByteArray := prog_7_method_1_code
def yX5_init : MethodName := ⟨RX5, "<init>", "()V"⟩
abbrev cX5_draw : ByteArray := prog_7_method_2_code
def yX5_draw : MethodName := ⟨RX5, "draw", "(LFlipBoard$State;II[I)V"⟩
abbrev cX5_drawAs : ByteArray := prog_7_method_3_code
def yX5_drawAs : MethodName := ⟨RX5, "drawAs", "(LFlipBoard$State;II)V"⟩
abbrev cX5_bestShiftOf : ByteArray := prog_7_method_4_code
def yX5_bestShiftOf : MethodName := ⟨RX5, "bestShiftOf", "(LFlipBoard$State;I)I"⟩
def RX6 : String := "FlipBoard$Reader"
def TX6 : u_T := fun k => match k with
  | 0 => ("FlipBoard$Reader", "draft", "LFlipBoard$Script;", true)
  | 1 => ("FlipBoard$Reader", "items", "I", false)
  | 2 => ("FlipBoard$Reader", "expected", "I", false)
  | 3 => ("FlipBoard$Reader", "letter", "I", false)
  | _ => ("FlipBoard$Reader", "firstDigit", "I", false)
def tyX6 : Nat → FieldType := fun k => match k with
  | 0 => .object "FlipBoard$Script"
  | 1 => .int
  | 2 => .int
  | 3 => .int
  | _ => .int
theorem nmX6 : ∀ a, a < 5 → ∀ b, b < 5 → a ≠ b → (TX6 a).2.1 ≠ (TX6 b).2.1 := by decide +kernel
theorem tyX6_ok : ∀ k, k < 5 → parseFieldDescriptor (TX6 k).2.2.1 = some (tyX6 k) := by decide +kernel
abbrev cX6_init : ByteArray := prog_8_method_1_code
def yX6_init : MethodName := ⟨RX6, "<init>", "()V"⟩
abbrev cX6_errorIn : ByteArray := prog_8_method_2_code
def yX6_errorIn : MethodName := ⟨RX6, "errorIn", "([IILFlipBoard$Script;)I"⟩
abbrev cX6_takes : ByteArray := prog_8_method_3_code
def yX6_takes : MethodName := ⟨RX6, "takes", "(I)Z"⟩
abbrev cX6_takesStart : ByteArray := prog_8_method_4_code
def yX6_takesStart : MethodName := ⟨RX6, "takesStart", "(I)Z"⟩
abbrev cX6_takesEqualsSign : ByteArray := prog_8_method_5_code
def yX6_takesEqualsSign : MethodName := ⟨RX6, "takesEqualsSign", "(I)Z"⟩
abbrev cX6_takesFirstDigit : ByteArray := prog_8_method_6_code
def yX6_takesFirstDigit : MethodName := ⟨RX6, "takesFirstDigit", "(I)Z"⟩
abbrev cX6_takesSecondDigit : ByteArray := prog_8_method_7_code
def yX6_takesSecondDigit : MethodName := ⟨RX6, "takesSecondDigit", "(I)Z"⟩
abbrev cX6_takesCharacter : ByteArray := prog_8_method_8_code
def yX6_takesCharacter : MethodName := ⟨RX6, "takesCharacter", "(I)Z"⟩
abbrev cX6_endItem : ByteArray := prog_8_method_9_code
def yX6_endItem : MethodName := ⟨RX6, "endItem", "()V"⟩
abbrev cX6_isSmallLetter : ByteArray := prog_8_method_10_code
def yX6_isSmallLetter : MethodName := ⟨RX6, "isSmallLetter", "(I)Z"⟩
abbrev cX6_digitOf : ByteArray := prog_8_method_11_code
def yX6_digitOf : MethodName := ⟨RX6, "digitOf", "(I)I"⟩
def RX7 : String := "FlipBoard$Script"
def TX7 : u_T := fun k => match k with
  | 0 => ("FlipBoard$Script", "columns", "[I", true)
  | 1 => ("FlipBoard$Script", "widths", "[I", true)
  | 2 => ("FlipBoard$Script", "characters", "[I", true)
  | 3 => ("FlipBoard$Script", "lengths", "[I", true)
  | _ => ("FlipBoard$Script", "messages", "I", false)
def tyX7 : Nat → FieldType := fun k => match k with
  | 0 => .array .int
  | 1 => .array .int
  | 2 => .array .int
  | 3 => .array .int
  | _ => .int
theorem nmX7 : ∀ a, a < 5 → ∀ b, b < 5 → a ≠ b → (TX7 a).2.1 ≠ (TX7 b).2.1 := by decide +kernel
theorem tyX7_ok : ∀ k, k < 5 → parseFieldDescriptor (TX7 k).2.2.1 = some (tyX7 k) := by decide +kernel
abbrev cX7_init : ByteArray := prog_9_method_1_code
def yX7_init : MethodName := ⟨RX7, "<init>", "()V"⟩
abbrev cX7_copyFrom : ByteArray := prog_9_method_2_code
def yX7_copyFrom : MethodName := ⟨RX7, "copyFrom", "(LFlipBoard$Script;)V"⟩
abbrev cX7_widthOf : ByteArray := prog_9_method_3_code
def yX7_widthOf : MethodName := ⟨RX7, "widthOf", "(I)I"⟩
abbrev cX7_columnOf : ByteArray := prog_9_method_4_code
def yX7_columnOf : MethodName := ⟨RX7, "columnOf", "(II)I"⟩
abbrev cX7_putColumn : ByteArray := prog_9_method_5_code
def yX7_putColumn : MethodName := ⟨RX7, "putColumn", "(III)V"⟩
abbrev cX7_clearLetter : ByteArray := prog_9_method_6_code
def yX7_clearLetter : MethodName := ⟨RX7, "clearLetter", "(I)V"⟩
abbrev cX7_isLetter : ByteArray := prog_9_method_7_code
def yX7_isLetter : MethodName := ⟨RX7, "isLetter", "(I)Z"⟩
abbrev cX7_hasMessage : ByteArray := prog_9_method_8_code
def yX7_hasMessage : MethodName := ⟨RX7, "hasMessage", "(I)Z"⟩
abbrev cX7_lengthOf : ByteArray := prog_9_method_9_code
def yX7_lengthOf : MethodName := ⟨RX7, "lengthOf", "(I)I"⟩
abbrev cX7_characterOf : ByteArray := prog_9_method_10_code
def yX7_characterOf : MethodName := ⟨RX7, "characterOf", "(II)I"⟩
abbrev cX7_startMessage : ByteArray := prog_9_method_11_code
def yX7_startMessage : MethodName := ⟨RX7, "startMessage", "()V"⟩
abbrev cX7_addCharacter : ByteArray := prog_9_method_12_code
def yX7_addCharacter : MethodName := ⟨RX7, "addCharacter", "(I)V"⟩
abbrev cX7_dropMessage : ByteArray := prog_9_method_13_code
def yX7_dropMessage : MethodName := ⟨RX7, "dropMessage", "(I)V"⟩
abbrev cX7_stripColumns : ByteArray := prog_9_method_14_code
def yX7_stripColumns : MethodName := ⟨RX7, "stripColumns", "(I)I"⟩
abbrev cX7_stripBits : ByteArray := prog_9_method_15_code
def yX7_stripBits : MethodName := ⟨RX7, "stripBits", "(II)I"⟩
def RX8 : String := "FlipBoard$State"
def TX8 : u_T := fun k => match k with
  | 0 => ("FlipBoard$State", "dots", "LFlipBoard$Dots;", true)
  | 1 => ("FlipBoard$State", "meter", "LFlipBoard$Meter;", true)
  | 2 => ("FlipBoard$State", "script", "LFlipBoard$Script;", true)
  | _ => ("FlipBoard$State", "numbers", "[I", true)
def tyX8 : Nat → FieldType := fun k => match k with
  | 0 => .object "FlipBoard$Dots"
  | 1 => .object "FlipBoard$Meter"
  | 2 => .object "FlipBoard$Script"
  | _ => .array .int
theorem nmX8 : ∀ a, a < 4 → ∀ b, b < 4 → a ≠ b → (TX8 a).2.1 ≠ (TX8 b).2.1 := by decide +kernel
theorem tyX8_ok : ∀ k, k < 4 → parseFieldDescriptor (TX8 k).2.2.1 = some (tyX8 k) := by decide +kernel
abbrev cX8_init : ByteArray := prog_10_method_1_code
def yX8_init : MethodName := ⟨RX8, "<init>", "()V"⟩
abbrev cX8_copyFrom : ByteArray := prog_10_method_2_code
def yX8_copyFrom : MethodName := ⟨RX8, "copyFrom", "(LFlipBoard$State;)V"⟩
abbrev cX8_hasNumber : ByteArray := prog_10_method_3_code
def yX8_hasNumber : MethodName := ⟨RX8, "hasNumber", "(I)Z"⟩
abbrev cX8_tryDot : ByteArray := prog_10_method_4_code
def yX8_tryDot : MethodName := ⟨RX8, "tryDot", "(II)V"⟩
def RX9 : String := "FlipBoard"
def TX9 : u_T := fun k => match k with
  | 0 => ("FlipBoard", "now", "LFlipBoard$State;", true)
  | 1 => ("FlipBoard", "trial", "LFlipBoard$State;", true)
  | 2 => ("FlipBoard", "history", "LFlipBoard$History;", true)
  | 3 => ("FlipBoard", "painter", "LFlipBoard$Painter;", true)
  | 4 => ("FlipBoard", "flipper", "LFlipBoard$Flipper;", true)
  | 5 => ("FlipBoard", "reader", "LFlipBoard$Reader;", true)
  | 6 => ("FlipBoard", "orders", "LFlipBoard$Orders;", true)
  | 7 => ("FlipBoard", "text", "[I", true)
  | _ => ("FlipBoard", "textLength", "I", false)
def tyX9 : Nat → FieldType := fun k => match k with
  | 0 => .object "FlipBoard$State"
  | 1 => .object "FlipBoard$State"
  | 2 => .object "FlipBoard$History"
  | 3 => .object "FlipBoard$Painter"
  | 4 => .object "FlipBoard$Flipper"
  | 5 => .object "FlipBoard$Reader"
  | 6 => .object "FlipBoard$Orders"
  | 7 => .array .int
  | _ => .int
theorem nmX9 : ∀ a, a < 9 → ∀ b, b < 9 → a ≠ b → (TX9 a).2.1 ≠ (TX9 b).2.1 := by decide +kernel
theorem tyX9_ok : ∀ k, k < 9 → parseFieldDescriptor (TX9 k).2.2.1 = some (tyX9 k) := by decide +kernel
abbrev cX9_init : ByteArray := prog_1_method_1_code
def yX9_init : MethodName := ⟨RX9, "<init>", "()V"⟩
abbrev cX9_begin : ByteArray := prog_1_method_2_code
def yX9_begin : MethodName := ⟨RX9, "begin", "(I)I"⟩
abbrev cX9_setNumber : ByteArray := prog_1_method_3_code
def yX9_setNumber : MethodName := ⟨RX9, "setNumber", "(II)I"⟩
abbrev cX9_setColumn : ByteArray := prog_1_method_4_code
def yX9_setColumn : MethodName := ⟨RX9, "setColumn", "(III)I"⟩
abbrev cX9_addMessage : ByteArray := prog_1_method_5_code
def yX9_addMessage : MethodName := ⟨RX9, "addMessage", "(II)I"⟩
abbrev cX9_removeMessage : ByteArray := prog_1_method_6_code
def yX9_removeMessage : MethodName := ⟨RX9, "removeMessage", "(I)I"⟩
abbrev cX9_appendCharacter : ByteArray := prog_1_method_7_code
def yX9_appendCharacter : MethodName := ⟨RX9, "appendCharacter", "(I)I"⟩
abbrev cX9_clearText : ByteArray := prog_1_method_8_code
def yX9_clearText : MethodName := ⟨RX9, "clearText", "()I"⟩
abbrev cX9_load : ByteArray := prog_1_method_9_code
def yX9_load : MethodName := ⟨RX9, "load", "()I"⟩
abbrev cX9_show : ByteArray := prog_1_method_10_code
def yX9_show : MethodName := ⟨RX9, "show", "(II)I"⟩
abbrev cX9_darken : ByteArray := prog_1_method_11_code
def yX9_darken : MethodName := ⟨RX9, "darken", "()I"⟩
abbrev cX9_jam : ByteArray := prog_1_method_12_code
def yX9_jam : MethodName := ⟨RX9, "jam", "(II)I"⟩
abbrev cX9_mend : ByteArray := prog_1_method_13_code
def yX9_mend : MethodName := ⟨RX9, "mend", "(II)I"⟩
abbrev cX9_pass : ByteArray := prog_1_method_14_code
def yX9_pass : MethodName := ⟨RX9, "pass", "(I)I"⟩
abbrev cX9_count : ByteArray := prog_1_method_15_code
def yX9_count : MethodName := ⟨RX9, "count", "(I)I"⟩
abbrev cX9_column : ByteArray := prog_1_method_16_code
def yX9_column : MethodName := ⟨RX9, "column", "(II)I"⟩
abbrev cX9_flips : ByteArray := prog_1_method_17_code
def yX9_flips : MethodName := ⟨RX9, "flips", "(II)I"⟩
abbrev cX9_letter : ByteArray := prog_1_method_18_code
def yX9_letter : MethodName := ⟨RX9, "letter", "(II)I"⟩
abbrev cX9_message : ByteArray := prog_1_method_19_code
def yX9_message : MethodName := ⟨RX9, "message", "(II)I"⟩
abbrev cX9_strip : ByteArray := prog_1_method_20_code
def yX9_strip : MethodName := ⟨RX9, "strip", "(I)I"⟩
abbrev cX9_picture : ByteArray := prog_1_method_21_code
def yX9_picture : MethodName := ⟨RX9, "picture", "(III)I"⟩
abbrev cX9_power : ByteArray := prog_1_method_22_code
def yX9_power : MethodName := ⟨RX9, "power", "(I)I"⟩
abbrev cX9_bestShift : ByteArray := prog_1_method_23_code
def yX9_bestShift : MethodName := ⟨RX9, "bestShift", "(I)I"⟩
abbrev cX9_due : ByteArray := prog_1_method_24_code
def yX9_due : MethodName := ⟨RX9, "due", "(II)I"⟩
abbrev cX9_secondsFor : ByteArray := prog_1_method_25_code
def yX9_secondsFor : MethodName := ⟨RX9, "secondsFor", "(II)I"⟩
abbrev cX9_between : ByteArray := prog_1_method_26_code
def yX9_between : MethodName := ⟨RX9, "between", "(II)I"⟩
abbrev cX9_bestOrder : ByteArray := prog_1_method_27_code
def yX9_bestOrder : MethodName := ⟨RX9, "bestOrder", "(II)I"⟩
abbrev cX9_undo : ByteArray := prog_1_method_28_code
def yX9_undo : MethodName := ⟨RX9, "undo", "()I"⟩
abbrev cX9_canShow : ByteArray := prog_1_method_29_code
def yX9_canShow : MethodName := ⟨RX9, "canShow", "(II)Z"⟩
abbrev cX9_isSetToOrder : ByteArray := prog_1_method_30_code
def yX9_isSetToOrder : MethodName := ⟨RX9, "isSetToOrder", "(I)Z"⟩
abbrev cX9_copy : ByteArray := prog_1_method_31_code
def yX9_copy : MethodName := ⟨RX9, "copy", "([I[I)V"⟩
def RX10 : String := "FlipBoardModel"
def TX10 : u_T := fun k => match k with
  | 0 => ("FlipBoardModel", "s", "[I", true)
  | 1 => ("FlipBoardModel", "past", "[I", true)
  | 2 => ("FlipBoardModel", "aside", "[I", true)
  | 3 => ("FlipBoardModel", "kept", "[I", true)
  | 4 => ("FlipBoardModel", "pasts", "I", false)
  | 5 => ("FlipBoardModel", "text", "[I", true)
  | 6 => ("FlipBoardModel", "typed", "I", false)
  | 7 => ("FlipBoardModel", "picture", "[I", true)
  | 8 => ("FlipBoardModel", "other", "[I", true)
  | 9 => ("FlipBoardModel", "began", "[I", true)
  | 10 => ("FlipBoardModel", "spot", "I", false)
  | 11 => ("FlipBoardModel", "order", "[I", true)
  | 12 => ("FlipBoardModel", "bestOne", "[I", true)
  | 13 => ("FlipBoardModel", "orderMany", "I", false)
  | 14 => ("FlipBoardModel", "firstFlips", "[I", true)
  | _ => ("FlipBoardModel", "flipsBetween", "[I", true)
def tyX10 : Nat → FieldType := fun k => match k with
  | 0 => .array .int
  | 1 => .array .int
  | 2 => .array .int
  | 3 => .array .int
  | 4 => .int
  | 5 => .array .int
  | 6 => .int
  | 7 => .array .int
  | 8 => .array .int
  | 9 => .array .int
  | 10 => .int
  | 11 => .array .int
  | 12 => .array .int
  | 13 => .int
  | 14 => .array .int
  | _ => .array .int
theorem nmX10 : ∀ a, a < 16 → ∀ b, b < 16 → a ≠ b → (TX10 a).2.1 ≠ (TX10 b).2.1 := by decide +kernel
theorem tyX10_ok : ∀ k, k < 16 → parseFieldDescriptor (TX10 k).2.2.1 = some (tyX10 k) := by decide +kernel
abbrev cX10_init : ByteArray := prog_12_method_1_code
def yX10_init : MethodName := ⟨RX10, "<init>", "()V"⟩
abbrev cX10_in : ByteArray := prog_12_method_3_code
def yX10_in : MethodName := ⟨RX10, "in", "(III)Z"⟩
abbrev cX10_copies : ByteArray := prog_12_method_4_code
def yX10_copies : MethodName := ⟨RX10, "copies", "([I[I)V"⟩
abbrev cX10_hold : ByteArray := prog_12_method_5_code
def yX10_hold : MethodName := ⟨RX10, "hold", "()V"⟩
abbrev cX10_ends : ByteArray := prog_12_method_6_code
def yX10_ends : MethodName := ⟨RX10, "ends", "(I)I"⟩
abbrev cX10_isColumn : ByteArray := prog_12_method_7_code
def yX10_isColumn : MethodName := ⟨RX10, "isColumn", "(I)Z"⟩
abbrev cX10_isMessage : ByteArray := prog_12_method_8_code
def yX10_isMessage : MethodName := ⟨RX10, "isMessage", "(I)Z"⟩
abbrev cX10_bits : ByteArray := prog_12_method_9_code
def yX10_bits : MethodName := ⟨RX10, "bits", "(I)I"⟩
abbrev cX10_lengthOf : ByteArray := prog_12_method_10_code
def yX10_lengthOf : MethodName := ⟨RX10, "lengthOf", "(I)I"⟩
abbrev cX10_characterOf : ByteArray := prog_12_method_11_code
def yX10_characterOf : MethodName := ⟨RX10, "characterOf", "(II)I"⟩
abbrev cX10_wideOf : ByteArray := prog_12_method_12_code
def yX10_wideOf : MethodName := ⟨RX10, "wideOf", "(I)I"⟩
abbrev cX10_stripOf : ByteArray := prog_12_method_13_code
def yX10_stripOf : MethodName := ⟨RX10, "stripOf", "(I)I"⟩
abbrev cX10_lays : ByteArray := prog_12_method_14_code
def yX10_lays : MethodName := ⟨RX10, "lays", "(II[I)V"⟩
abbrev cX10_differs : ByteArray := prog_12_method_15_code
def yX10_differs : MethodName := ⟨RX10, "differs", "([II[IZ)I"⟩
abbrev cX10_bestOf : ByteArray := prog_12_method_16_code
def yX10_bestOf : MethodName := ⟨RX10, "bestOf", "(I)I"⟩
abbrev cX10_shiftFor : ByteArray := prog_12_method_17_code
def yX10_shiftFor : MethodName := ⟨RX10, "shiftFor", "(II)I"⟩
abbrev cX10_dueOf : ByteArray := prog_12_method_18_code
def yX10_dueOf : MethodName := ⟨RX10, "dueOf", "(I)I"⟩
abbrev cX10_dueMany : ByteArray := prog_12_method_19_code
def yX10_dueMany : MethodName := ⟨RX10, "dueMany", "()I"⟩
abbrev cX10_nextColumn : ByteArray := prog_12_method_20_code
def yX10_nextColumn : MethodName := ⟨RX10, "nextColumn", "(I)I"⟩
abbrev cX10_flipsAt : ByteArray := prog_12_method_21_code
def yX10_flipsAt : MethodName := ⟨RX10, "flipsAt", "(II)V"⟩
abbrev cX10_second : ByteArray := prog_12_method_22_code
def yX10_second : MethodName := ⟨RX10, "second", "()V"⟩
abbrev cX10_begin : ByteArray := prog_12_method_23_code
def yX10_begin : MethodName := ⟨RX10, "begin", "(I)I"⟩
abbrev cX10_isNumber : ByteArray := prog_12_method_24_code
def yX10_isNumber : MethodName := ⟨RX10, "isNumber", "(II)Z"⟩
abbrev cX10_setNumber : ByteArray := prog_12_method_25_code
def yX10_setNumber : MethodName := ⟨RX10, "setNumber", "(II)I"⟩
abbrev cX10_setColumn : ByteArray := prog_12_method_26_code
def yX10_setColumn : MethodName := ⟨RX10, "setColumn", "(III)I"⟩
abbrev cX10_addMessage : ByteArray := prog_12_method_27_code
def yX10_addMessage : MethodName := ⟨RX10, "addMessage", "(II)I"⟩
abbrev cX10_removeMessage : ByteArray := prog_12_method_28_code
def yX10_removeMessage : MethodName := ⟨RX10, "removeMessage", "(I)I"⟩
abbrev cX10_appendCharacter : ByteArray := prog_12_method_29_code
def yX10_appendCharacter : MethodName := ⟨RX10, "appendCharacter", "(I)I"⟩
abbrev cX10_clearText : ByteArray := prog_12_method_30_code
def yX10_clearText : MethodName := ⟨RX10, "clearText", "()I"⟩
abbrev cX10_here : ByteArray := prog_12_method_31_code
def yX10_here : MethodName := ⟨RX10, "here", "()I"⟩
abbrev cX10_skips : ByteArray := prog_12_method_32_code
def yX10_skips : MethodName := ⟨RX10, "skips", "()V"⟩
abbrev cX10_digitOf : ByteArray := prog_12_method_33_code
def yX10_digitOf : MethodName := ⟨RX10, "digitOf", "(I)I"⟩
abbrev cX10_isLetter : ByteArray := prog_12_method_34_code
def yX10_isLetter : MethodName := ⟨RX10, "isLetter", "()Z"⟩
abbrev cX10_isText : ByteArray := prog_12_method_35_code
def yX10_isText : MethodName := ⟨RX10, "isText", "()Z"⟩
abbrev cX10_load : ByteArray := prog_12_method_36_code
def yX10_load : MethodName := ⟨RX10, "load", "()I"⟩
abbrev cX10_aims : ByteArray := prog_12_method_37_code
def yX10_aims : MethodName := ⟨RX10, "aims", "(II)V"⟩
abbrev cX10_isShow : ByteArray := prog_12_method_38_code
def yX10_isShow : MethodName := ⟨RX10, "isShow", "(II)Z"⟩
abbrev cX10_show : ByteArray := prog_12_method_39_code
def yX10_show : MethodName := ⟨RX10, "show", "(II)I"⟩
abbrev cX10_darken : ByteArray := prog_12_method_40_code
def yX10_darken : MethodName := ⟨RX10, "darken", "()I"⟩
abbrev cX10_isDot : ByteArray := prog_12_method_41_code
def yX10_isDot : MethodName := ⟨RX10, "isDot", "(II)Z"⟩
abbrev cX10_jam : ByteArray := prog_12_method_42_code
def yX10_jam : MethodName := ⟨RX10, "jam", "(II)I"⟩
abbrev cX10_mend : ByteArray := prog_12_method_43_code
def yX10_mend : MethodName := ⟨RX10, "mend", "(II)I"⟩
abbrev cX10_pass : ByteArray := prog_12_method_44_code
def yX10_pass : MethodName := ⟨RX10, "pass", "(I)I"⟩
abbrev cX10_bitsOf : ByteArray := prog_12_method_45_code
def yX10_bitsOf : MethodName := ⟨RX10, "bitsOf", "(I)I"⟩
abbrev cX10_offMany : ByteArray := prog_12_method_46_code
def yX10_offMany : MethodName := ⟨RX10, "offMany", "()I"⟩
abbrev cX10_count : ByteArray := prog_12_method_47_code
def yX10_count : MethodName := ⟨RX10, "count", "(I)I"⟩
abbrev cX10_column : ByteArray := prog_12_method_48_code
def yX10_column : MethodName := ⟨RX10, "column", "(II)I"⟩
abbrev cX10_flips : ByteArray := prog_12_method_49_code
def yX10_flips : MethodName := ⟨RX10, "flips", "(II)I"⟩
abbrev cX10_letter : ByteArray := prog_12_method_50_code
def yX10_letter : MethodName := ⟨RX10, "letter", "(II)I"⟩
abbrev cX10_message : ByteArray := prog_12_method_51_code
def yX10_message : MethodName := ⟨RX10, "message", "(II)I"⟩
abbrev cX10_strip : ByteArray := prog_12_method_52_code
def yX10_strip : MethodName := ⟨RX10, "strip", "(I)I"⟩
abbrev cX10_picture : ByteArray := prog_12_method_53_code
def yX10_picture : MethodName := ⟨RX10, "picture", "(III)I"⟩
abbrev cX10_power : ByteArray := prog_12_method_54_code
def yX10_power : MethodName := ⟨RX10, "power", "(I)I"⟩
abbrev cX10_bestShift : ByteArray := prog_12_method_55_code
def yX10_bestShift : MethodName := ⟨RX10, "bestShift", "(I)I"⟩
abbrev cX10_due : ByteArray := prog_12_method_56_code
def yX10_due : MethodName := ⟨RX10, "due", "(II)I"⟩
abbrev cX10_secondsFor : ByteArray := prog_12_method_57_code
def yX10_secondsFor : MethodName := ⟨RX10, "secondsFor", "(II)I"⟩
abbrev cX10_betweenOf : ByteArray := prog_12_method_58_code
def yX10_betweenOf : MethodName := ⟨RX10, "betweenOf", "(II)I"⟩
abbrev cX10_between : ByteArray := prog_12_method_59_code
def yX10_between : MethodName := ⟨RX10, "between", "(II)I"⟩
abbrev cX10_flipsFor : ByteArray := prog_12_method_60_code
def yX10_flipsFor : MethodName := ⟨RX10, "flipsFor", "()I"⟩
abbrev cX10_swaps : ByteArray := prog_12_method_61_code
def yX10_swaps : MethodName := ⟨RX10, "swaps", "(II)V"⟩
abbrev cX10_goesOn : ByteArray := prog_12_method_62_code
def yX10_goesOn : MethodName := ⟨RX10, "goesOn", "()Z"⟩
abbrev cX10_laysFlips : ByteArray := prog_12_method_63_code
def yX10_laysFlips : MethodName := ⟨RX10, "laysFlips", "()V"⟩
abbrev cX10_bestOrder : ByteArray := prog_12_method_64_code
def yX10_bestOrder : MethodName := ⟨RX10, "bestOrder", "(II)I"⟩
abbrev cX10_undo : ByteArray := prog_12_method_65_code
def yX10_undo : MethodName := ⟨RX10, "undo", "()I"⟩
def RJx8e188 : String := "java/lang/Cloneable"
def RJ6 : String := "java/lang/Integer"
abbrev cJ6_bitCount_0f7a4 : ByteArray := prog_14_method_49_code
def yJ6_bitCount_0f7a4 : MethodName := ⟨RJ6, "bitCount", "(I)I"⟩
def RJ9 : String := "java/lang/Math"
abbrev cJ9_floorMod_7cf53 : ByteArray := prog_15_method_50_code
def yJ9_floorMod_7cf53 : MethodName := ⟨RJ9, "floorMod", "(II)I"⟩
abbrev cJ9_max_7cf53 : ByteArray := prog_15_method_65_code
def yJ9_max_7cf53 : MethodName := ⟨RJ9, "max", "(II)I"⟩
abbrev cJ9_min_7cf53 : ByteArray := prog_15_method_69_code
def yJ9_min_7cf53 : MethodName := ⟨RJ9, "min", "(II)I"⟩
def RJ10 : String := "java/lang/System"
def RJ7 : String := "java/util/Arrays"
abbrev cJ7_fill_53178 : ByteArray := prog_17_method_103_code
def yJ7_fill_53178 : MethodName := ⟨RJ7, "fill", "([II)V"⟩
def RL : String := "FlipBoardLaw"
abbrev cL_law : ByteArray := code
def yL_law : MethodName := ⟨RL, "law", "([I)Z"⟩
abbrev vwCl : List vw_C := [(RX0, TX0, 6), (RX1, TX1, 1), (RX2, TX2, 3), (RX3, TX3, 5), (RX4, TX4, 5), (RX5, TX5, 2), (RX6, TX6, 5), (RX7, TX7, 5), (RX8, TX8, 4), (RX9, TX9, 9), (RX10, TX10, 16)]
end
section
/-! THE LAYER: an abstract world (places instead of addresses) and one row an instruction over it -/
-- environment: class numbers, array classes (0 int[], 1 int[][], 2 State[]), the first address of the run's own cells, the read-only arrays (0..3 the class's constants, 4 the script), the script's length and content
abbrev EV : Type := va_G × (Nat → ClassId) × Nat × (Nat → Nat) × Nat × (Nat → Int32)
def eD (E : EV) : va_G := E.1
def eC (E : EV) : Nat → ClassId := E.2.1
def eB (E : EV) : Nat := E.2.2.1
def eT (E : EV) : Nat → Nat := E.2.2.2.1
def eN (E : EV) : Nat → Nat := fun k => match k with | 0 => 3 | 1 => 3 | 2 => 3 | 3 => 5 | _ => E.2.2.2.2.1
def eF (E : EV) : Nat → Nat → Int32 := fun k => match k with
  | 0 => fun j => [10, 0, 100].getD j 0
  | 1 => fun j => [2, 0, 1].getD j 0
  | 2 => fun j => [50, 2, 200].getD j 0
  | 3 => fun j => [0, -1, 1, -2, 2].getD j 0
  | _ => E.2.2.2.2.2
def eA (E : EV) : Nat → Prop := fun q => eB E ≤ q
def ad (E : EV) (p : Nat) : Nat := if p < 5 then eT E p else eB E + (p - 5)
def cv (E : EV) (v : Value) : Value := match v with
  | .ref p => .ref (ad E p)
  | w => w
theorem cv_int (E : EV) (x : Int32) : cv E (.int x) = .int x := rfl
theorem cv_ref (E : EV) (p : Nat) : cv E (.ref p) = .ref (ad E p) := rfl
theorem cv_null (E : EV) : cv E .null = .null := rfl
theorem ad_in {E : EV} {p : Nat} (h : 5 ≤ p) : ad E p = eB E + (p - 5) := if_neg (by omega)
theorem ad_inj {E : EV} {p q : Nat} (hp : 5 ≤ p) (hq : 5 ≤ q) (h : ad E p = ad E q) : p = q := by
  rw [ad_in hp, ad_in hq] at h
  omega
/-- a cell: an array of ints, an array of places, or an object (its class's number, its fields) -/
abbrev AC : Type := (Nat × Nat × ((Nat → Int32) ⊕ (Nat → Option Nat))) ⊕ (Nat × List Value)
abbrev cI (n : Nat) (f : Nat → Int32) : AC := .inl (0, n, .inl f)
abbrev cG (t n : Nat) (g : Nat → Option Nat) : AC := .inl (t, n, .inr g)
abbrev cO (ci : Nat) (fs : List Value) : AC := .inr (ci, fs)
abbrev HP : Type := Nat → Option AC
def cc (E : EV) : AC → va_E
  | .inl (t, n, .inl f) => .inl (eC E t, n, .inl f)
  | .inl (t, n, .inr g) => .inl (eC E t, n, .inr (.inr (.inr (.inr (fun i => (g i).map (ad E))))))
  | .inr (ci, fs) => .inr (ci, fs.map (cv E))
def hset (h : HP) (a : Nat) (c : AC) : HP := fun q => if q = a then some c else h q
theorem hset_eq (h : HP) (a : Nat) (c : AC) : hset h a c a = some c := if_pos rfl
theorem hset_ne (h : HP) {a q : Nat} (c : AC) (e : q ≠ a) : hset h a c q = h q := if_neg e
abbrev tysE (E : EV) : List (ClassId × FieldType) := [(eC E 0, .int), (eC E 1, .array .int), (eC E 2, .object RX8)]
/-- the heap holds the world h, n places of it -/
def Wd (E : EV) (n : Nat) (h : HP) (H : Heap) : Prop :=
  5 ≤ n ∧ H.size = eB E + (n - 5) ∧ (∀ p c, h p = some c → 5 ≤ p ∧ p < n ∧ va_at (eD E) vwCl (ad E p, cc E c) H) ∧ ∀ p, 5 ≤ p → p < n → (h p).isSome = true
/-- the words that a method may hand to its callees; those of nests and casts go with the world -/
def tbG : List Cond := lw_tbl.filter goodWord
def nestQ : Cond → Bool
  | .fieldLinkNest .. => true
  | .methodLinkNest .. => true
  | .castable .. => true
  | .arrayOver _ => true
  | _ => false
theorem tbG_in {w : Cond} (h : w ∈ tbG) : w ∈ lw_tbl := (List.mem_filter.mp h).1
theorem nest_moved {w : Cond} (hq : nestQ w = true) {u U : State} (hW : u.WarmedH U.vm) (h : va_Nw w u) : va_Nw w U := by
  cases w <;> first | (cases hq; done) | exact va_Nw.warmF hW h | exact va_Nw.warmM hW h | exact va_Nw.warmC hW h | exact (Cond.arrayOver_setVmC (args := #[]) hW.alike _).trans h
/-- what is read only -/
def Ks (E : EV) (U : State) : Prop :=
  va_K (eD E) vwCl (tysE E) U ∧ (va_Z RX9 "FIRST_NUMBERS" "[I" (.ref (eT E 0)) (eA E) U U.heap ∧ va_Z RX9 "LEAST_NUMBERS" "[I" (.ref (eT E 1)) (eA E) U U.heap ∧ va_Z RX9 "MOST_NUMBERS" "[I" (.ref (eT E 2)) (eA E) U U.heap ∧ va_Z RX9 "SHIFTS" "[I" (.ref (eT E 3)) (eA E) U U.heap) ∧
  (∀ k, k < 5 → va_T .int (eT E k) (eN E k) (fun j => .int (eF E k j)) (eA E) U U.heap) ∧
  U.heap[eT E 0]? = some (vp_cell (eC E 0) (3, .inl (eF E 0))) ∧ (∀ w ∈ lw_tbl, nestQ w = true → va_Nw w U) ∧ eB E ≤ U.heap.size
theorem Ks.moved {E : EV} {u U : State} (h : Ks E u) (hW : u.WarmedH U.vm) (hz : u.heap.size ≤ U.heap.size) (hk : ∀ a : Nat, a < u.heap.size → ¬ eA E a → U.heap[a]? = u.heap[a]?) : Ks E U := by
  obtain ⟨h1, ⟨z0, z1, z2, z3⟩, h3, h4, h5, h6⟩ := h
  have hvm := hW.alike
  have ha : ¬ eA E (eT E 0) := (h3 0 (by decide)).choose_spec.2.2.2.2.2.2
  exact ⟨h1.moved hvm, ⟨(z0.moved hvm).kept hk, (z1.moved hvm).kept hk, (z2.moved hvm).kept hk, (z3.moved hvm).kept hk⟩, fun k hk' => ((h3 k hk').moved hvm).kept hk, by rw [hk _ (Array.getElem?_eq_some_iff.mp h4).1 ha]; exact h4, fun w hw hq => nest_moved hq hW (h5 w hw hq), Nat.le_trans h6 hz⟩
theorem Ks.nest {E : EV} {s : State} (h : Ks E s) {w : Cond} (hw : w ∈ lw_tbl) (hq : nestQ w = true) {args : Array Value} : w.before args s = true := by
  have h1 := h.2.2.2.2.1 w hw hq
  cases w <;> first | (cases hq; done) | exact va_Nw.use rfl h1 | exact h1
/-- the locals -/
def lvr (E : EV) (nL : Nat) (ls : Array Slot) (L : List (Option Value)) : Prop :=
  ls.size = nL ∧ lv_wf ls ∧ L.length = nL ∧ ∀ (i : Nat) (v : Value), L[i]? = some (some v) → ls[i]? = some (Slot.val (cv E v)) ∧ v.category = 1
abbrev CX : Type := Program × Launch × Env × Room × State × MethodId × Array Value × List Frame × Method × Code × (State → Prop) × EV × Nat
abbrev CX.l (X : CX) : Launch := X.2.1
abbrev CX.E (X : CX) : EV := X.2.2.2.2.2.2.2.2.2.2.2.1
def AW (X : CX) (n : Nat) (h : HP) (k sl pc : Nat) (L : List (Option Value)) (st : List Value) : Prop :=
  match X with
  | (p, l, e, R, s, m, args, below, meth, c, Q, E, nL) =>
    ∀ (H : Heap) (locs : List Loc) (ls : Array Slot), Wd E n h H → va_S (eA E) s.heap H locs → H.size = s.heap.size + k → lvr E nL ls L →
      W p l e R s m args below meth c H locs k sl Q (F0 m pc ls (st.map (cv E)))
/-- what a method answers -/
def AQ (E : EV) (n : Nat) (post : Option Value → HP → Prop) : Array Value → State → Outcome → State → Prop := fun _ st oc t =>
  (∃ (v : Option Value) (h : HP), oc = .returned (v.map (cv E)) ∧ post v h ∧ Wd E n h t.heap) ∧ va_F (eA E) st t
abbrev rmA (fr lo mc ms : Nat) : Room := { frames := fr, cells := mc, slots := ms, locals := lo }
/-- what a body knows -/
def Cx (X : CX) (own : String) (bytes : ByteArray) (ret : Option FieldType) (fr lo mc ms n1 : Nat) (post : Option Value → HP → Prop) : Prop :=
  match X with
  | (p, _, _, R, s, m, args, below, meth, c, Q, E, nL) =>
    p.tables.exec = Jvm.exec ∧ c.code = bytes ∧ c.maxLocals = nL ∧ s.vm.findClass own = some m.cls ∧ (∀ w ∈ tbG, w.before args s = true) ∧ Ks E s ∧ meth.locks = false ∧ meth.sig.returnType = ret ∧ R = rmA fr lo mc ms ∧ Q = MQ below (AQ E n1 post) args s mc ms (eA E)
/-- a method's contract over the abstract world -/
def AM (l : Launch) (y : MethodName) (bytes : ByteArray) (nL : Nat) (ret : Option FieldType) (fr lo mc ms : Nat) (E : EV) (n : Nat) (h : HP) (As : List Value) (post : Option Value → HP → Prop) : Prop :=
  Met l y (.code y bytes nL ret :: tbG) (rmA fr lo mc ms) (va_Pc (As.map (cv E)) (fun U => Wd E n h U.heap ∧ Ks E U)) (AQ E (n + mc) post) mc ms (eA E)
theorem lg_sl_one : ∀ (vs : List Value), (∀ v ∈ vs, v.category = 1) → lg_sl vs = vs.map Slot.val
  | [], _ => rfl
  | v :: vs, h => by
    have h1 : v.category = 1 := h v List.mem_cons_self
    have h2 := lg_sl_one vs (fun w hw => h w (List.mem_cons_of_mem _ hw))
    cases v <;> first | (simp [lg_sl, h2]; done) | (exact absurd h1 (by decide)) | simp_all [lg_sl, Value.category]
theorem cv_cat (E : EV) (v : Value) : (cv E v).category = v.category := by cases v <;> rfl
theorem tysE_at (E : EV) {t : Nat} (h : t < 3) : ∃ ty, (tysE E)[t]? = some (eC E t, ty) := by
  match t, h with
  | 0, _ => exact ⟨_, rfl⟩
  | 1, _ => exact ⟨_, rfl⟩
  | 2, _ => exact ⟨_, rfl⟩
theorem cc_set (E : EV) (ci : Nat) (fs : List Value) (k : Nat) {v : Value} : cc E (cO ci (fs.set k v)) = .inr (ci, (fs.map (cv E)).set k (cv E v)) := by
  show Sum.inr (ci, (fs.set k v).map (cv E)) = _
  rw [List.map_set]
/-- the locals as the kit's list -/
def asl (E : EV) (L : List (Option Value)) : List (Nat × Value) := (List.range L.length).filterMap (fun i => match L[i]? with
  | some (some v) => some (i, cv E v)
  | _ => none)
theorem mem_asl {E : EV} {L : List (Option Value)} {i : Nat} {v : Value} (h : L[i]? = some (some v)) : (i, cv E v) ∈ asl E L := by
  refine List.mem_filterMap.mpr ⟨i, List.mem_range.mpr (List.getElem?_eq_some_iff.mp h).1, ?_⟩
  simp only [h]
theorem of_asl {E : EV} {L : List (Option Value)} {q : Nat × Value} (h : q ∈ asl E L) : ∃ v, L[q.1]? = some (some v) ∧ q.2 = cv E v := by
  obtain ⟨i, -, hi⟩ := List.mem_filterMap.mp h
  split at hi
  · rename_i v hv
    cases hi
    exact ⟨v, hv, rfl⟩
  · cases hi
theorem lvr.has {E : EV} {nL : Nat} {ls : Array Slot} {L : List (Option Value)} (h : lvr E nL ls L) : lv_has ls nL (asl E L) := by
  refine ⟨h.1, h.2.1, fun q hq => ?_⟩
  obtain ⟨v, h1, h2⟩ := of_asl hq
  rw [h2]
  exact (h.2.2.2 _ _ h1).1
theorem lvr.put {E : EV} {nL i : Nat} {ls ls' : Array Slot} {L : List (Option Value)} {v : Value} (h : lvr E nL ls L) (hi : i < L.length) (hc : v.category = 1) (h' : lv_has ls' nL ((i, cv E v) :: (asl E L).filter (fun q => !(q.1 == i) && !(q.1 + 1 == i && q.2.category == 2)))) : lvr E nL ls' (L.set i (some v)) := by
  refine ⟨h'.1, h'.2.1, by rw [List.length_set]; exact h.2.2.1, fun j w hj => ?_⟩
  by_cases e : j = i
  · subst e
    rw [List.getElem?_set_self hi] at hj
    cases hj
    exact ⟨h'.2.2 _ List.mem_cons_self, hc⟩
  · rw [List.getElem?_set_ne (Ne.symm e)] at hj
    obtain ⟨h1, h2⟩ := h.2.2.2 j w hj
    refine ⟨h'.2.2 (j, cv E w) (List.mem_cons_of_mem _ (List.mem_filter.mpr ⟨mem_asl hj, ?_⟩)), h2⟩
    have h3 : (cv E w).category = 1 := (cv_cat E w).trans h2
    simp [e, h3]
theorem W.sz {p : Program} {l : Launch} {e : Env} {R : Room} {s : State} {m : MethodId} {args : Array Value} {below : List Frame} {meth : Method} {c : Code} {H : Heap} {locs : List Loc} {cells slots : Nat} {Q : State → Prop} {g : JFrame} (kk : H.size ≤ s.heap.size + cells → W p l e R s m args below meth c H locs cells slots Q g) : W p l e R s m args below meth c H locs cells slots Q g := by
  intro T hT X
  have h := X.heapSize
  rw [hT] at h
  exact kk h T hT X
theorem cc_at_lt {E : EV} {p : Nat} {c : AC} {H : Heap} (h : va_at (eD E) vwCl (ad E p, cc E c) H) : ad E p < H.size := va_at.lt h
/-- the world as a list; behind a write to one of its cells the world again -/
theorem Wd.all {E : EV} {n : Nat} {h : HP} {H : Heap} (hW : Wd E n h H) :
    ∃ ws : va_W, va_P (eD E) vwCl ws H ∧ va_D (eA E) ws ∧ (∀ (p : Nat) (c : AC), h p = some c → ∃ j : Nat, ws[j]? = some (ad E p, cc E c)) ∧
      ∀ (a : Nat) (c : AC) (q0 : Nat), h a = some c → ws[q0]? = some (ad E a, cc E c) → ∀ (c' : AC) (H1 : Heap), va_P (eD E) vwCl (ws.set q0 (ad E a, cc E c')) H1 → H1.size ≤ H.size → Wd E n (hset h a c') H1 ∧ H1.size = H.size := by
  obtain ⟨h5, hz, hc, hf⟩ := hW
  let F : Nat → Option (Nat × va_E) := fun p => (h p).map (fun c => (ad E p, cc E c))
  have hmem : ∀ q, q ∈ (List.range n).filterMap F ↔ ∃ p c, h p = some c ∧ q = (ad E p, cc E c) := by
    intro q
    rw [List.mem_filterMap]
    constructor
    · rintro ⟨p, -, hp⟩
      obtain ⟨c, h1, h2⟩ := Option.map_eq_some_iff.mp hp
      exact ⟨p, c, h1, h2.symm⟩
    · rintro ⟨p, c, h1, rfl⟩
      exact ⟨p, List.mem_range.mpr (hc p c h1).2.1, Option.map_eq_some_iff.mpr ⟨c, h1, rfl⟩⟩
  have hnd : ((List.range n).filterMap F).Pairwise (fun x y => x.1 ≠ y.1) := by
    rw [List.pairwise_filterMap]
    refine List.Pairwise.imp_of_mem ?_ List.nodup_range
    intro i j hi hj hij x hx y hy
    obtain ⟨ci, h1, h2⟩ := Option.map_eq_some_iff.mp hx
    obtain ⟨cj, h3, h4⟩ := Option.map_eq_some_iff.mp hy
    rw [← h2, ← h4]
    intro e
    exact hij (ad_inj (hc i ci h1).1 (hc j cj h3).1 e)
  have hD : va_D (eA E) ((List.range n).filterMap F) := by
    refine ⟨fun i j x y hi hj hxy => ?_, fun k q hk => ?_⟩
    · rw [List.pairwise_iff_getElem] at hnd
      obtain ⟨li, ei⟩ := List.getElem?_eq_some_iff.mp hi
      obtain ⟨lj, ej⟩ := List.getElem?_eq_some_iff.mp hj
      rcases Nat.lt_trichotomy i j with w | w | w
      · exact absurd hxy (by rw [← ei, ← ej]; exact hnd i j li lj w)
      · exact w
      · exact absurd hxy.symm (by rw [← ei, ← ej]; exact hnd j i lj li w)
    · obtain ⟨p, c, h1, rfl⟩ := (hmem q).mp (List.mem_of_getElem? hk)
      show eB E ≤ ad E p
      rw [ad_in (hc p c h1).1]
      omega
  refine ⟨(List.range n).filterMap F, fun k q hk => ?_, hD, fun p c hp => List.getElem?_of_mem ((hmem _).mpr ⟨p, c, hp, rfl⟩), fun a c q0 hh hq0 c' H1 hP1 hz1 => ?_⟩
  · obtain ⟨p, c, h1, rfl⟩ := (hmem q).mp (List.mem_of_getElem? hk)
    exact (hc p c h1).2.2
  · have hl := (List.getElem?_eq_some_iff.mp hq0).1
    have hc1 : ∀ p c, hset h a c' p = some c → 5 ≤ p ∧ p < n ∧ va_at (eD E) vwCl (ad E p, cc E c) H1 := by
      intro p c1 hp
      by_cases e : p = a
      · subst e
        rw [hset_eq] at hp
        cases hp
        exact ⟨(hc _ _ hh).1, (hc _ _ hh).2.1, hP1 q0 _ (List.getElem?_set_self hl)⟩
      · rw [hset_ne h c' e] at hp
        obtain ⟨g1, g2, g3⟩ := hc p c1 hp
        obtain ⟨j, hj⟩ := List.getElem?_of_mem ((hmem _).mpr ⟨p, c1, hp, rfl⟩)
        refine ⟨g1, g2, hP1 j _ ?_⟩
        rw [List.getElem?_set_ne ?_]
        · exact hj
        · intro e2
          subst e2
          rw [hq0] at hj
          have := congrArg (fun z : Option (Nat × va_E) => z.map Prod.fst) hj
          simp only [Option.map_some, Option.some.injEq] at this
          exact e (ad_inj g1 (hc _ _ hh).1 this.symm)
    have hf1 : ∀ p, 5 ≤ p → p < n → (hset h a c' p).isSome = true := by
      intro p g1 g2
      by_cases e : p = a
      · rw [e, hset_eq]; rfl
      · rw [hset_ne h c' e]; exact hf p g1 g2
    have hsz : H1.size = H.size := by
      have hn : 5 < n := by have := hc _ _ hh; omega
      have h1 := hf1 (n - 1) (by omega) (by omega)
      obtain ⟨c1, hc2⟩ := Option.isSome_iff_exists.mp h1
      have h2 := cc_at_lt (hc1 _ _ hc2).2.2
      rw [ad_in (by omega)] at h2
      omega
    exact ⟨⟨h5, by rw [hsz]; exact hz, hc1, hf1⟩, hsz⟩
theorem Wd.list {E : EV} {n : Nat} {h : HP} {H : Heap} (hW : Wd E n h H) {a : Nat} {c : AC} (hh : h a = some c) :
    ∃ (ws : va_W) (q0 : Nat), va_P (eD E) vwCl ws H ∧ va_D (eA E) ws ∧ ws[q0]? = some (ad E a, cc E c) ∧
      ∀ (c' : AC) (H1 : Heap), va_P (eD E) vwCl (ws.set q0 (ad E a, cc E c')) H1 → H1.size ≤ H.size → Wd E n (hset h a c') H1 ∧ H1.size = H.size := by
  obtain ⟨ws, hP, hD, hm, hb⟩ := hW.all
  obtain ⟨q0, hq⟩ := hm a c hh
  exact ⟨ws, q0, hP, hD, hq, hb a c q0 hh hq⟩
/-- a cell more -/
theorem Wd.grow {E : EV} {n : Nat} {h : HP} {H H1 : Heap} {ws : va_W} {q : Nat} {c : AC} (hW : Wd E n h H) (hm : ∀ (p : Nat) (c : AC), h p = some c → ∃ j : Nat, ws[j]? = some (ad E p, cc E c))
    (hP : va_P (eD E) vwCl (ws ++ [(q, cc E c)]) H1) (hD : va_D (eA E) (ws ++ [(q, cc E c)])) (hz1 : H1.size ≤ H.size + 1) : q = ad E n ∧ Wd E (n + 1) (hset h n c) H1 ∧ H1.size = H.size + 1 := by
  obtain ⟨h5, hz, hc, hf⟩ := hW
  have hlast : (ws ++ [(q, cc E c)])[ws.length]? = some (q, cc E c) := by rw [List.getElem?_append_right (Nat.le_refl _), Nat.sub_self]; rfl
  have hold : ∀ (j : Nat) (x : Nat × va_E), ws[j]? = some x → (ws ++ [(q, cc E c)])[j]? = some x := fun j x hj => by
    rw [List.getElem?_append_left (List.getElem?_eq_some_iff.mp hj).1]; exact hj
  have hq1 : q < H1.size := (hP _ _ hlast).lt
  have hq2 : eB E ≤ q := hD.2 _ _ hlast
  have hq3 : ¬ q < eB E + (n - 5) := by
    intro hlt
    have hp := hf (q - eB E + 5) (by omega) (by omega)
    obtain ⟨c1, hc1⟩ := Option.isSome_iff_exists.mp hp
    obtain ⟨j, hj⟩ := hm _ _ hc1
    have e : (ad E (q - eB E + 5)) = q := by rw [ad_in (by omega)]; omega
    have := hD.1 j ws.length _ _ (hold _ _ hj) hlast e
    have := (List.getElem?_eq_some_iff.mp hj).1
    omega
  have hqe : q = ad E n := by rw [ad_in h5]; omega
  refine ⟨hqe, ⟨by omega, by rw [ad_in h5] at hqe; omega, fun p c1 hp => ?_, fun p g1 g2 => ?_⟩, by rw [ad_in h5] at hqe; omega⟩
  · by_cases e : p = n
    · subst e
      rw [hset_eq] at hp
      cases hp
      refine ⟨h5, by omega, ?_⟩
      rw [← hqe]
      exact hP _ _ hlast
    · rw [hset_ne h c e] at hp
      obtain ⟨g1, g2, g3⟩ := hc p c1 hp
      obtain ⟨j, hj⟩ := hm _ _ hp
      exact ⟨g1, by omega, hP _ _ (hold _ _ hj)⟩
  · by_cases e : p = n
    · rw [e, hset_eq]; rfl
    · rw [hset_ne h c e]; exact hf p g1 (by omega)
end
section
theorem aw_iconst {X : CX} {own : String} {bytes : ByteArray} {ret : Option FieldType} {fr lo mc ms n1 : Nat} {post : Option Value → HP → Prop} {n k sl pc : Nat} {h : HP} {L : List (Option Value)} {st : List Value} (hX : Cx X own bytes ret fr lo mc ms n1 post) {z : Int} (v : Int32) (hdg : decode bytes pc = .ok (.iconst z, 1)) (hv : Int32.ofInt z = v) (kk : AW X n h k sl (pc + 1) L (.int v :: st)) : AW X n h k sl pc L st := by
  obtain ⟨p, l, e, R, s, m, args, below, meth, c, Q, E, nL⟩ := X
  obtain ⟨hx, hb, hml, hown, hts, hK, hlk, hr, hR, hQ⟩ := hX
  intro H locs ls hW hS hz hl
  exact lv_iconst hx hb hdg hv (kk H locs ls hW hS hz hl)

theorem aw_bipush {X : CX} {own : String} {bytes : ByteArray} {ret : Option FieldType} {fr lo mc ms n1 : Nat} {post : Option Value → HP → Prop} {n k sl pc : Nat} {h : HP} {L : List (Option Value)} {st : List Value} (hX : Cx X own bytes ret fr lo mc ms n1 post) {z : Int} (v : Int32) (hdg : decode bytes pc = .ok (.bipush z, 2)) (hv : (Int8.ofInt z).toInt32 = v) (kk : AW X n h k sl (pc + 2) L (.int v :: st)) : AW X n h k sl pc L st := by
  obtain ⟨p, l, e, R, s, m, args, below, meth, c, Q, E, nL⟩ := X
  obtain ⟨hx, hb, hml, hown, hts, hK, hlk, hr, hR, hQ⟩ := hX
  intro H locs ls hW hS hz hl
  exact lv_bipush hx hb hdg hv (kk H locs ls hW hS hz hl)

theorem aw_sipush {X : CX} {own : String} {bytes : ByteArray} {ret : Option FieldType} {fr lo mc ms n1 : Nat} {post : Option Value → HP → Prop} {n k sl pc : Nat} {h : HP} {L : List (Option Value)} {st : List Value} (hX : Cx X own bytes ret fr lo mc ms n1 post) {z : Int} (v : Int32) (hdg : decode bytes pc = .ok (.sipush z, 3)) (hv : (Int16.ofInt z).toInt32 = v) (kk : AW X n h k sl (pc + 3) L (.int v :: st)) : AW X n h k sl pc L st := by
  obtain ⟨p, l, e, R, s, m, args, below, meth, c, Q, E, nL⟩ := X
  obtain ⟨hx, hb, hml, hown, hts, hK, hlk, hr, hR, hQ⟩ := hX
  intro H locs ls hW hS hz hl
  exact lv_sipush hx hb hdg hv (kk H locs ls hW hS hz hl)

theorem aw_iload_n {X : CX} {own : String} {bytes : ByteArray} {ret : Option FieldType} {fr lo mc ms n1 : Nat} {post : Option Value → HP → Prop} {n k sl pc : Nat} {h : HP} {L : List (Option Value)} {st : List Value} (hX : Cx X own bytes ret fr lo mc ms n1 post) {i : Fin 4} {x : Int32} (hdg : decode bytes pc = .ok (.iload_n i, 1)) (hv : L[(i : Nat)]? = some (some (.int x))) (kk : AW X n h k sl (pc + 1) L (.int x :: st)) : AW X n h k sl pc L st := by
  obtain ⟨p, l, e, R, s, m, args, below, meth, c, Q, E, nL⟩ := X
  obtain ⟨hx, hb, hml, hown, hts, hK, hlk, hr, hR, hQ⟩ := hX
  intro H locs ls hW hS hz hl
  exact lv_iload_n hx hb hdg rfl (hl.2.2.2 _ _ hv).1 (kk H locs ls hW hS hz hl)

theorem aw_iload {X : CX} {own : String} {bytes : ByteArray} {ret : Option FieldType} {fr lo mc ms n1 : Nat} {post : Option Value → HP → Prop} {n k sl pc : Nat} {h : HP} {L : List (Option Value)} {st : List Value} (hX : Cx X own bytes ret fr lo mc ms n1 post) {i : Nat} {x : Int32} (hdg : decode bytes pc = .ok (.iload i, 2)) (hv : L[i]? = some (some (.int x))) (kk : AW X n h k sl (pc + 2) L (.int x :: st)) : AW X n h k sl pc L st := by
  obtain ⟨p, l, e, R, s, m, args, below, meth, c, Q, E, nL⟩ := X
  obtain ⟨hx, hb, hml, hown, hts, hK, hlk, hr, hR, hQ⟩ := hX
  intro H locs ls hW hS hz hl
  exact lv_iload hx hb hdg (hl.2.2.2 _ _ hv).1 (kk H locs ls hW hS hz hl)

theorem aw_aload_n {X : CX} {own : String} {bytes : ByteArray} {ret : Option FieldType} {fr lo mc ms n1 : Nat} {post : Option Value → HP → Prop} {n k sl pc : Nat} {h : HP} {L : List (Option Value)} {st : List Value} (hX : Cx X own bytes ret fr lo mc ms n1 post) {i : Fin 4} {x : Nat} (hdg : decode bytes pc = .ok (.aload_n i, 1)) (hv : L[(i : Nat)]? = some (some (.ref x))) (kk : AW X n h k sl (pc + 1) L (.ref x :: st)) : AW X n h k sl pc L st := by
  obtain ⟨p, l, e, R, s, m, args, below, meth, c, Q, E, nL⟩ := X
  obtain ⟨hx, hb, hml, hown, hts, hK, hlk, hr, hR, hQ⟩ := hX
  intro H locs ls hW hS hz hl
  exact lv_aload_n hx hb hdg rfl (hl.2.2.2 _ _ hv).1 (kk H locs ls hW hS hz hl)

theorem aw_aload {X : CX} {own : String} {bytes : ByteArray} {ret : Option FieldType} {fr lo mc ms n1 : Nat} {post : Option Value → HP → Prop} {n k sl pc : Nat} {h : HP} {L : List (Option Value)} {st : List Value} (hX : Cx X own bytes ret fr lo mc ms n1 post) {i : Nat} {x : Nat} (hdg : decode bytes pc = .ok (.aload i, 2)) (hv : L[i]? = some (some (.ref x))) (kk : AW X n h k sl (pc + 2) L (.ref x :: st)) : AW X n h k sl pc L st := by
  obtain ⟨p, l, e, R, s, m, args, below, meth, c, Q, E, nL⟩ := X
  obtain ⟨hx, hb, hml, hown, hts, hK, hlk, hr, hR, hQ⟩ := hX
  intro H locs ls hW hS hz hl
  exact lv_aload hx hb hdg (hl.2.2.2 _ _ hv).1 (kk H locs ls hW hS hz hl)

theorem aw_istore_n {X : CX} {own : String} {bytes : ByteArray} {ret : Option FieldType} {fr lo mc ms n1 : Nat} {post : Option Value → HP → Prop} {n k sl pc : Nat} {h : HP} {L : List (Option Value)} {st : List Value} (hX : Cx X own bytes ret fr lo mc ms n1 post) {i : Fin 4} {x : Int32} (hdg : decode bytes pc = .ok (.istore_n i, 1)) (hi : (i : Nat) < L.length) (kk : AW X n h k sl (pc + 1) (L.set (i : Nat) (some (.int x))) st) : AW X n h k sl pc L (.int x :: st) := by
  obtain ⟨p, l, e, R, s, m, args, below, meth, c, Q, E, nL⟩ := X
  obtain ⟨hx, hb, hml, hown, hts, hK, hlk, hr, hR, hQ⟩ := hX
  intro H locs ls hW hS hz hl
  exact lv_istore_n hx hb hdg rfl hl.has (by rw [← hl.2.2.1]; exact hi) rfl (fun ls' h' => kk H locs ls' hW hS hz (lvr.put hl hi rfl h'))

theorem aw_istore {X : CX} {own : String} {bytes : ByteArray} {ret : Option FieldType} {fr lo mc ms n1 : Nat} {post : Option Value → HP → Prop} {n k sl pc : Nat} {h : HP} {L : List (Option Value)} {st : List Value} (hX : Cx X own bytes ret fr lo mc ms n1 post) {i : Nat} {x : Int32} (hdg : decode bytes pc = .ok (.istore i, 2)) (hi : i < L.length) (kk : AW X n h k sl (pc + 2) (L.set i (some (.int x))) st) : AW X n h k sl pc L (.int x :: st) := by
  obtain ⟨p, l, e, R, s, m, args, below, meth, c, Q, E, nL⟩ := X
  obtain ⟨hx, hb, hml, hown, hts, hK, hlk, hr, hR, hQ⟩ := hX
  intro H locs ls hW hS hz hl
  exact lv_istore hx hb hdg hl.has (by rw [← hl.2.2.1]; exact hi) rfl (fun ls' h' => kk H locs ls' hW hS hz (lvr.put hl hi rfl h'))

theorem aw_astore_n {X : CX} {own : String} {bytes : ByteArray} {ret : Option FieldType} {fr lo mc ms n1 : Nat} {post : Option Value → HP → Prop} {n k sl pc : Nat} {h : HP} {L : List (Option Value)} {st : List Value} (hX : Cx X own bytes ret fr lo mc ms n1 post) {i : Fin 4} {x : Nat} (hdg : decode bytes pc = .ok (.astore_n i, 1)) (hi : (i : Nat) < L.length) (kk : AW X n h k sl (pc + 1) (L.set (i : Nat) (some (.ref x))) st) : AW X n h k sl pc L (.ref x :: st) := by
  obtain ⟨p, l, e, R, s, m, args, below, meth, c, Q, E, nL⟩ := X
  obtain ⟨hx, hb, hml, hown, hts, hK, hlk, hr, hR, hQ⟩ := hX
  intro H locs ls hW hS hz hl
  exact lv_astore_n hx hb hdg rfl hl.has (by rw [← hl.2.2.1]; exact hi) rfl (fun ls' h' => kk H locs ls' hW hS hz (lvr.put hl hi rfl h'))

theorem aw_astore {X : CX} {own : String} {bytes : ByteArray} {ret : Option FieldType} {fr lo mc ms n1 : Nat} {post : Option Value → HP → Prop} {n k sl pc : Nat} {h : HP} {L : List (Option Value)} {st : List Value} (hX : Cx X own bytes ret fr lo mc ms n1 post) {i : Nat} {x : Nat} (hdg : decode bytes pc = .ok (.astore i, 2)) (hi : i < L.length) (kk : AW X n h k sl (pc + 2) (L.set i (some (.ref x))) st) : AW X n h k sl pc L (.ref x :: st) := by
  obtain ⟨p, l, e, R, s, m, args, below, meth, c, Q, E, nL⟩ := X
  obtain ⟨hx, hb, hml, hown, hts, hK, hlk, hr, hR, hQ⟩ := hX
  intro H locs ls hW hS hz hl
  exact lv_astore hx hb hdg hl.has (by rw [← hl.2.2.1]; exact hi) rfl (fun ls' h' => kk H locs ls' hW hS hz (lvr.put hl hi rfl h'))

theorem aw_iinc {X : CX} {own : String} {bytes : ByteArray} {ret : Option FieldType} {fr lo mc ms n1 : Nat} {post : Option Value → HP → Prop} {n k sl pc : Nat} {h : HP} {L : List (Option Value)} {st : List Value} (hX : Cx X own bytes ret fr lo mc ms n1 post) {i : Nat} {z : Int} {x : Int32} (v : Int32) (hdg : decode bytes pc = .ok (.iinc i z, 3)) (hv : L[i]? = some (some (.int x))) (hz2 : x + Int32.ofInt z = v) (kk : AW X n h k sl (pc + 3) (L.set i (some (.int v))) st) : AW X n h k sl pc L st := by
  obtain ⟨p, l, e, R, s, m, args, below, meth, c, Q, E, nL⟩ := X
  obtain ⟨hx, hb, hml, hown, hts, hK, hlk, hr, hR, hQ⟩ := hX
  intro H locs ls hW hS hz hl
  have hi : i < L.length := (List.getElem?_eq_some_iff.mp hv).1
  obtain ⟨q, hq⟩ := List.getElem?_of_mem (mem_asl (E := E) hv)
  exact lv_iinc hx hb hdg hl.has hq hz2 (by rw [← hl.2.2.1]; exact hi) rfl (fun ls' h' => kk H locs ls' hW hS hz (lvr.put hl hi rfl h'))

theorem aw_iadd {X : CX} {own : String} {bytes : ByteArray} {ret : Option FieldType} {fr lo mc ms n1 : Nat} {post : Option Value → HP → Prop} {n k sl pc : Nat} {h : HP} {L : List (Option Value)} {st : List Value} (hX : Cx X own bytes ret fr lo mc ms n1 post) {x y : Int32} (hdg : decode bytes pc = .ok (.iadd, 1)) (kk : AW X n h k sl (pc + 1) L (.int (x + y) :: st)) : AW X n h k sl pc L (.int y :: .int x :: st) := by
  obtain ⟨p, l, e, R, s, m, args, below, meth, c, Q, E, nL⟩ := X
  obtain ⟨hx, hb, hml, hown, hts, hK, hlk, hr, hR, hQ⟩ := hX
  intro H locs ls hW hS hz hl
  exact lv_iadd hx hb hdg (kk H locs ls hW hS hz hl)

theorem aw_isub {X : CX} {own : String} {bytes : ByteArray} {ret : Option FieldType} {fr lo mc ms n1 : Nat} {post : Option Value → HP → Prop} {n k sl pc : Nat} {h : HP} {L : List (Option Value)} {st : List Value} (hX : Cx X own bytes ret fr lo mc ms n1 post) {x y : Int32} (hdg : decode bytes pc = .ok (.isub, 1)) (kk : AW X n h k sl (pc + 1) L (.int (x - y) :: st)) : AW X n h k sl pc L (.int y :: .int x :: st) := by
  obtain ⟨p, l, e, R, s, m, args, below, meth, c, Q, E, nL⟩ := X
  obtain ⟨hx, hb, hml, hown, hts, hK, hlk, hr, hR, hQ⟩ := hX
  intro H locs ls hW hS hz hl
  exact lv_isub hx hb hdg (kk H locs ls hW hS hz hl)

theorem aw_imul {X : CX} {own : String} {bytes : ByteArray} {ret : Option FieldType} {fr lo mc ms n1 : Nat} {post : Option Value → HP → Prop} {n k sl pc : Nat} {h : HP} {L : List (Option Value)} {st : List Value} (hX : Cx X own bytes ret fr lo mc ms n1 post) {x y : Int32} (hdg : decode bytes pc = .ok (.imul, 1)) (kk : AW X n h k sl (pc + 1) L (.int (x * y) :: st)) : AW X n h k sl pc L (.int y :: .int x :: st) := by
  obtain ⟨p, l, e, R, s, m, args, below, meth, c, Q, E, nL⟩ := X
  obtain ⟨hx, hb, hml, hown, hts, hK, hlk, hr, hR, hQ⟩ := hX
  intro H locs ls hW hS hz hl
  exact lv_imul hx hb hdg (kk H locs ls hW hS hz hl)

theorem aw_iand {X : CX} {own : String} {bytes : ByteArray} {ret : Option FieldType} {fr lo mc ms n1 : Nat} {post : Option Value → HP → Prop} {n k sl pc : Nat} {h : HP} {L : List (Option Value)} {st : List Value} (hX : Cx X own bytes ret fr lo mc ms n1 post) {x y : Int32} (hdg : decode bytes pc = .ok (.iand, 1)) (kk : AW X n h k sl (pc + 1) L (.int (x &&& y) :: st)) : AW X n h k sl pc L (.int y :: .int x :: st) := by
  obtain ⟨p, l, e, R, s, m, args, below, meth, c, Q, E, nL⟩ := X
  obtain ⟨hx, hb, hml, hown, hts, hK, hlk, hr, hR, hQ⟩ := hX
  intro H locs ls hW hS hz hl
  exact lv_iand hx hb hdg (kk H locs ls hW hS hz hl)

theorem aw_ior {X : CX} {own : String} {bytes : ByteArray} {ret : Option FieldType} {fr lo mc ms n1 : Nat} {post : Option Value → HP → Prop} {n k sl pc : Nat} {h : HP} {L : List (Option Value)} {st : List Value} (hX : Cx X own bytes ret fr lo mc ms n1 post) {x y : Int32} (hdg : decode bytes pc = .ok (.ior, 1)) (kk : AW X n h k sl (pc + 1) L (.int (x ||| y) :: st)) : AW X n h k sl pc L (.int y :: .int x :: st) := by
  obtain ⟨p, l, e, R, s, m, args, below, meth, c, Q, E, nL⟩ := X
  obtain ⟨hx, hb, hml, hown, hts, hK, hlk, hr, hR, hQ⟩ := hX
  intro H locs ls hW hS hz hl
  exact lv_ior hx hb hdg (kk H locs ls hW hS hz hl)

theorem aw_ixor {X : CX} {own : String} {bytes : ByteArray} {ret : Option FieldType} {fr lo mc ms n1 : Nat} {post : Option Value → HP → Prop} {n k sl pc : Nat} {h : HP} {L : List (Option Value)} {st : List Value} (hX : Cx X own bytes ret fr lo mc ms n1 post) {x y : Int32} (hdg : decode bytes pc = .ok (.ixor, 1)) (kk : AW X n h k sl (pc + 1) L (.int (x ^^^ y) :: st)) : AW X n h k sl pc L (.int y :: .int x :: st) := by
  obtain ⟨p, l, e, R, s, m, args, below, meth, c, Q, E, nL⟩ := X
  obtain ⟨hx, hb, hml, hown, hts, hK, hlk, hr, hR, hQ⟩ := hX
  intro H locs ls hW hS hz hl
  exact lv_ixor hx hb hdg (kk H locs ls hW hS hz hl)

theorem aw_ishl {X : CX} {own : String} {bytes : ByteArray} {ret : Option FieldType} {fr lo mc ms n1 : Nat} {post : Option Value → HP → Prop} {n k sl pc : Nat} {h : HP} {L : List (Option Value)} {st : List Value} (hX : Cx X own bytes ret fr lo mc ms n1 post) {x y : Int32} (hdg : decode bytes pc = .ok (.ishl, 1)) (kk : AW X n h k sl (pc + 1) L (.int (x <<< (y &&& 31)) :: st)) : AW X n h k sl pc L (.int y :: .int x :: st) := by
  obtain ⟨p, l, e, R, s, m, args, below, meth, c, Q, E, nL⟩ := X
  obtain ⟨hx, hb, hml, hown, hts, hK, hlk, hr, hR, hQ⟩ := hX
  intro H locs ls hW hS hz hl
  exact lv_ishl hx hb hdg (kk H locs ls hW hS hz hl)

theorem aw_ishr {X : CX} {own : String} {bytes : ByteArray} {ret : Option FieldType} {fr lo mc ms n1 : Nat} {post : Option Value → HP → Prop} {n k sl pc : Nat} {h : HP} {L : List (Option Value)} {st : List Value} (hX : Cx X own bytes ret fr lo mc ms n1 post) {x y : Int32} (hdg : decode bytes pc = .ok (.ishr, 1)) (kk : AW X n h k sl (pc + 1) L (.int (x >>> (y &&& 31)) :: st)) : AW X n h k sl pc L (.int y :: .int x :: st) := by
  obtain ⟨p, l, e, R, s, m, args, below, meth, c, Q, E, nL⟩ := X
  obtain ⟨hx, hb, hml, hown, hts, hK, hlk, hr, hR, hQ⟩ := hX
  intro H locs ls hW hS hz hl
  exact lv_ishr hx hb hdg (kk H locs ls hW hS hz hl)

theorem aw_idiv {X : CX} {own : String} {bytes : ByteArray} {ret : Option FieldType} {fr lo mc ms n1 : Nat} {post : Option Value → HP → Prop} {n k sl pc : Nat} {h : HP} {L : List (Option Value)} {st : List Value} (hX : Cx X own bytes ret fr lo mc ms n1 post) {x y : Int32} (hdg : decode bytes pc = .ok (.idiv, 1)) (hne : ¬ y = 0) (kk : AW X n h k sl (pc + 1) L (.int (x / y) :: st)) : AW X n h k sl pc L (.int y :: .int x :: st) := by
  obtain ⟨p, l, e, R, s, m, args, below, meth, c, Q, E, nL⟩ := X
  obtain ⟨hx, hb, hml, hown, hts, hK, hlk, hr, hR, hQ⟩ := hX
  intro H locs ls hW hS hz hl
  exact lv_idiv hx hb hdg hne (kk H locs ls hW hS hz hl)

theorem aw_irem {X : CX} {own : String} {bytes : ByteArray} {ret : Option FieldType} {fr lo mc ms n1 : Nat} {post : Option Value → HP → Prop} {n k sl pc : Nat} {h : HP} {L : List (Option Value)} {st : List Value} (hX : Cx X own bytes ret fr lo mc ms n1 post) {x y : Int32} (hdg : decode bytes pc = .ok (.irem, 1)) (hne : ¬ y = 0) (kk : AW X n h k sl (pc + 1) L (.int (x - x / y * y) :: st)) : AW X n h k sl pc L (.int y :: .int x :: st) := by
  obtain ⟨p, l, e, R, s, m, args, below, meth, c, Q, E, nL⟩ := X
  obtain ⟨hx, hb, hml, hown, hts, hK, hlk, hr, hR, hQ⟩ := hX
  intro H locs ls hW hS hz hl
  exact lv_irem hx hb hdg hne (kk H locs ls hW hS hz hl)

theorem aw_iushr {X : CX} {own : String} {bytes : ByteArray} {ret : Option FieldType} {fr lo mc ms n1 : Nat} {post : Option Value → HP → Prop} {n k sl pc : Nat} {h : HP} {L : List (Option Value)} {st : List Value} (hX : Cx X own bytes ret fr lo mc ms n1 post) {x y : Int32} (hdg : decode bytes pc = .ok (.iushr, 1)) (kk : AW X n h k sl (pc + 1) L (.int ((x.toUInt32 >>> (y.toUInt32 &&& Int32.toUInt32 31)).toInt32) :: st)) : AW X n h k sl pc L (.int y :: .int x :: st) := by
  obtain ⟨p, l, e, R, s, m, args, below, meth, c, Q, E, nL⟩ := X
  obtain ⟨hx, hb, hml, hown, hts, hK, hlk, hr, hR, hQ⟩ := hX
  intro H locs ls hW hS hz hl
  exact lv_iushr hx hb hdg rfl (kk H locs ls hW hS hz hl)

theorem aw_ineg {X : CX} {own : String} {bytes : ByteArray} {ret : Option FieldType} {fr lo mc ms n1 : Nat} {post : Option Value → HP → Prop} {n k sl pc : Nat} {h : HP} {L : List (Option Value)} {st : List Value} (hX : Cx X own bytes ret fr lo mc ms n1 post) {x : Int32} (hdg : decode bytes pc = .ok (.ineg, 1)) (kk : AW X n h k sl (pc + 1) L (.int (-x) :: st)) : AW X n h k sl pc L (.int x :: st) := by
  obtain ⟨p, l, e, R, s, m, args, below, meth, c, Q, E, nL⟩ := X
  obtain ⟨hx, hb, hml, hown, hts, hK, hlk, hr, hR, hQ⟩ := hX
  intro H locs ls hW hS hz hl
  exact lv_ineg hx hb hdg (kk H locs ls hW hS hz hl)

theorem aw_dup {X : CX} {own : String} {bytes : ByteArray} {ret : Option FieldType} {fr lo mc ms n1 : Nat} {post : Option Value → HP → Prop} {n k sl pc : Nat} {h : HP} {L : List (Option Value)} {st : List Value} (hX : Cx X own bytes ret fr lo mc ms n1 post) {v : Value} (hdg : decode bytes pc = .ok (.dup, 1)) (hc : v.category = 1) (kk : AW X n h k sl (pc + 1) L (v :: v :: st)) : AW X n h k sl pc L (v :: st) := by
  obtain ⟨p, l, e, R, s, m, args, below, meth, c, Q, E, nL⟩ := X
  obtain ⟨hx, hb, hml, hown, hts, hK, hlk, hr, hR, hQ⟩ := hX
  intro H locs ls hW hS hz hl
  exact lv_dup hx hb hdg ((cv_cat E v).trans hc) (kk H locs ls hW hS hz hl)

theorem aw_dup2 {X : CX} {own : String} {bytes : ByteArray} {ret : Option FieldType} {fr lo mc ms n1 : Nat} {post : Option Value → HP → Prop} {n k sl pc : Nat} {h : HP} {L : List (Option Value)} {st : List Value} (hX : Cx X own bytes ret fr lo mc ms n1 post) {v w : Value} (hdg : decode bytes pc = .ok (.dup2, 1)) (hc : v.category = 1) (hd : w.category = 1) (kk : AW X n h k sl (pc + 1) L (v :: w :: v :: w :: st)) : AW X n h k sl pc L (v :: w :: st) := by
  obtain ⟨p, l, e, R, s, m, args, below, meth, c, Q, E, nL⟩ := X
  obtain ⟨hx, hb, hml, hown, hts, hK, hlk, hr, hR, hQ⟩ := hX
  intro H locs ls hW hS hz hl
  exact lv_dup2_11 hx hb hdg ((cv_cat E v).trans hc) ((cv_cat E w).trans hd) (kk H locs ls hW hS hz hl)

theorem aw_if_eq {X : CX} {own : String} {bytes : ByteArray} {ret : Option FieldType} {fr lo mc ms n1 : Nat} {post : Option Value → HP → Prop} {n k sl pc : Nat} {h : HP} {L : List (Option Value)} {st : List Value} (hX : Cx X own bytes ret fr lo mc ms n1 post) {x : Int32} {off : Int} (tgt : Nat) (hdg : decode bytes pc = .ok (.ifCond .eq off, 3)) (ht : (pc : Int) + off = (tgt : Int)) (kt : x = 0 → AW X n h k sl tgt L st) (kf : ¬ x = 0 → AW X n h k sl (pc + 3) L st)  : AW X n h k sl pc L (.int x :: st) := by
  obtain ⟨p, l, e, R, s, m, args, below, meth, c, Q, E, nL⟩ := X
  obtain ⟨hx, hb, hml, hown, hts, hK, hlk, hr, hR, hQ⟩ := hX
  intro H locs ls hW hS hz hl
  exact lv_if_eq hx hb hdg ht (fun q => kt q H locs ls hW hS hz hl) (fun q => kf q H locs ls hW hS hz hl)

theorem aw_if_ne {X : CX} {own : String} {bytes : ByteArray} {ret : Option FieldType} {fr lo mc ms n1 : Nat} {post : Option Value → HP → Prop} {n k sl pc : Nat} {h : HP} {L : List (Option Value)} {st : List Value} (hX : Cx X own bytes ret fr lo mc ms n1 post) {x : Int32} {off : Int} (tgt : Nat) (hdg : decode bytes pc = .ok (.ifCond .ne off, 3)) (ht : (pc : Int) + off = (tgt : Int)) (kt : ¬ x = 0 → AW X n h k sl tgt L st) (kf : x = 0 → AW X n h k sl (pc + 3) L st)  : AW X n h k sl pc L (.int x :: st) := by
  obtain ⟨p, l, e, R, s, m, args, below, meth, c, Q, E, nL⟩ := X
  obtain ⟨hx, hb, hml, hown, hts, hK, hlk, hr, hR, hQ⟩ := hX
  intro H locs ls hW hS hz hl
  exact lv_if_ne hx hb hdg ht (fun q => kt q H locs ls hW hS hz hl) (fun q => kf q H locs ls hW hS hz hl)

theorem aw_if_lt {X : CX} {own : String} {bytes : ByteArray} {ret : Option FieldType} {fr lo mc ms n1 : Nat} {post : Option Value → HP → Prop} {n k sl pc : Nat} {h : HP} {L : List (Option Value)} {st : List Value} (hX : Cx X own bytes ret fr lo mc ms n1 post) {x : Int32} {off : Int} (tgt : Nat) (hdg : decode bytes pc = .ok (.ifCond .lt off, 3)) (ht : (pc : Int) + off = (tgt : Int)) (kt : x < 0 → AW X n h k sl tgt L st) (kf : ¬ x < 0 → AW X n h k sl (pc + 3) L st)  : AW X n h k sl pc L (.int x :: st) := by
  obtain ⟨p, l, e, R, s, m, args, below, meth, c, Q, E, nL⟩ := X
  obtain ⟨hx, hb, hml, hown, hts, hK, hlk, hr, hR, hQ⟩ := hX
  intro H locs ls hW hS hz hl
  exact lv_if_lt hx hb hdg ht (fun q => kt q H locs ls hW hS hz hl) (fun q => kf q H locs ls hW hS hz hl)

theorem aw_if_ge {X : CX} {own : String} {bytes : ByteArray} {ret : Option FieldType} {fr lo mc ms n1 : Nat} {post : Option Value → HP → Prop} {n k sl pc : Nat} {h : HP} {L : List (Option Value)} {st : List Value} (hX : Cx X own bytes ret fr lo mc ms n1 post) {x : Int32} {off : Int} (tgt : Nat) (hdg : decode bytes pc = .ok (.ifCond .ge off, 3)) (ht : (pc : Int) + off = (tgt : Int)) (kt : 0 ≤ x → AW X n h k sl tgt L st) (kf : ¬ 0 ≤ x → AW X n h k sl (pc + 3) L st)  : AW X n h k sl pc L (.int x :: st) := by
  obtain ⟨p, l, e, R, s, m, args, below, meth, c, Q, E, nL⟩ := X
  obtain ⟨hx, hb, hml, hown, hts, hK, hlk, hr, hR, hQ⟩ := hX
  intro H locs ls hW hS hz hl
  exact lv_if_ge hx hb hdg ht (fun q => kt q H locs ls hW hS hz hl) (fun q => kf q H locs ls hW hS hz hl)

theorem aw_if_gt {X : CX} {own : String} {bytes : ByteArray} {ret : Option FieldType} {fr lo mc ms n1 : Nat} {post : Option Value → HP → Prop} {n k sl pc : Nat} {h : HP} {L : List (Option Value)} {st : List Value} (hX : Cx X own bytes ret fr lo mc ms n1 post) {x : Int32} {off : Int} (tgt : Nat) (hdg : decode bytes pc = .ok (.ifCond .gt off, 3)) (ht : (pc : Int) + off = (tgt : Int)) (kt : 0 < x → AW X n h k sl tgt L st) (kf : ¬ 0 < x → AW X n h k sl (pc + 3) L st)  : AW X n h k sl pc L (.int x :: st) := by
  obtain ⟨p, l, e, R, s, m, args, below, meth, c, Q, E, nL⟩ := X
  obtain ⟨hx, hb, hml, hown, hts, hK, hlk, hr, hR, hQ⟩ := hX
  intro H locs ls hW hS hz hl
  exact lv_if_gt hx hb hdg ht (fun q => kt q H locs ls hW hS hz hl) (fun q => kf q H locs ls hW hS hz hl)

theorem aw_if_le {X : CX} {own : String} {bytes : ByteArray} {ret : Option FieldType} {fr lo mc ms n1 : Nat} {post : Option Value → HP → Prop} {n k sl pc : Nat} {h : HP} {L : List (Option Value)} {st : List Value} (hX : Cx X own bytes ret fr lo mc ms n1 post) {x : Int32} {off : Int} (tgt : Nat) (hdg : decode bytes pc = .ok (.ifCond .le off, 3)) (ht : (pc : Int) + off = (tgt : Int)) (kt : x ≤ 0 → AW X n h k sl tgt L st) (kf : ¬ x ≤ 0 → AW X n h k sl (pc + 3) L st)  : AW X n h k sl pc L (.int x :: st) := by
  obtain ⟨p, l, e, R, s, m, args, below, meth, c, Q, E, nL⟩ := X
  obtain ⟨hx, hb, hml, hown, hts, hK, hlk, hr, hR, hQ⟩ := hX
  intro H locs ls hW hS hz hl
  exact lv_if_le hx hb hdg ht (fun q => kt q H locs ls hW hS hz hl) (fun q => kf q H locs ls hW hS hz hl)

theorem aw_icmp_eq {X : CX} {own : String} {bytes : ByteArray} {ret : Option FieldType} {fr lo mc ms n1 : Nat} {post : Option Value → HP → Prop} {n k sl pc : Nat} {h : HP} {L : List (Option Value)} {st : List Value} (hX : Cx X own bytes ret fr lo mc ms n1 post) {x y : Int32} {off : Int} (tgt : Nat) (hdg : decode bytes pc = .ok (.if_icmp .eq off, 3)) (ht : (pc : Int) + off = (tgt : Int)) (kt : x = y → AW X n h k sl tgt L st) (kf : ¬ x = y → AW X n h k sl (pc + 3) L st)  : AW X n h k sl pc L (.int y :: .int x :: st) := by
  obtain ⟨p, l, e, R, s, m, args, below, meth, c, Q, E, nL⟩ := X
  obtain ⟨hx, hb, hml, hown, hts, hK, hlk, hr, hR, hQ⟩ := hX
  intro H locs ls hW hS hz hl
  exact lv_icmp_eq hx hb hdg ht (fun q => kt q H locs ls hW hS hz hl) (fun q => kf q H locs ls hW hS hz hl)

theorem aw_icmp_ne {X : CX} {own : String} {bytes : ByteArray} {ret : Option FieldType} {fr lo mc ms n1 : Nat} {post : Option Value → HP → Prop} {n k sl pc : Nat} {h : HP} {L : List (Option Value)} {st : List Value} (hX : Cx X own bytes ret fr lo mc ms n1 post) {x y : Int32} {off : Int} (tgt : Nat) (hdg : decode bytes pc = .ok (.if_icmp .ne off, 3)) (ht : (pc : Int) + off = (tgt : Int)) (kt : ¬ x = y → AW X n h k sl tgt L st) (kf : x = y → AW X n h k sl (pc + 3) L st)  : AW X n h k sl pc L (.int y :: .int x :: st) := by
  obtain ⟨p, l, e, R, s, m, args, below, meth, c, Q, E, nL⟩ := X
  obtain ⟨hx, hb, hml, hown, hts, hK, hlk, hr, hR, hQ⟩ := hX
  intro H locs ls hW hS hz hl
  exact lv_icmp_ne hx hb hdg ht (fun q => kt q H locs ls hW hS hz hl) (fun q => kf q H locs ls hW hS hz hl)

theorem aw_icmp_lt {X : CX} {own : String} {bytes : ByteArray} {ret : Option FieldType} {fr lo mc ms n1 : Nat} {post : Option Value → HP → Prop} {n k sl pc : Nat} {h : HP} {L : List (Option Value)} {st : List Value} (hX : Cx X own bytes ret fr lo mc ms n1 post) {x y : Int32} {off : Int} (tgt : Nat) (hdg : decode bytes pc = .ok (.if_icmp .lt off, 3)) (ht : (pc : Int) + off = (tgt : Int)) (kt : x < y → AW X n h k sl tgt L st) (kf : ¬ x < y → AW X n h k sl (pc + 3) L st)  : AW X n h k sl pc L (.int y :: .int x :: st) := by
  obtain ⟨p, l, e, R, s, m, args, below, meth, c, Q, E, nL⟩ := X
  obtain ⟨hx, hb, hml, hown, hts, hK, hlk, hr, hR, hQ⟩ := hX
  intro H locs ls hW hS hz hl
  exact lv_icmp_lt hx hb hdg ht (fun q => kt q H locs ls hW hS hz hl) (fun q => kf q H locs ls hW hS hz hl)

theorem aw_icmp_ge {X : CX} {own : String} {bytes : ByteArray} {ret : Option FieldType} {fr lo mc ms n1 : Nat} {post : Option Value → HP → Prop} {n k sl pc : Nat} {h : HP} {L : List (Option Value)} {st : List Value} (hX : Cx X own bytes ret fr lo mc ms n1 post) {x y : Int32} {off : Int} (tgt : Nat) (hdg : decode bytes pc = .ok (.if_icmp .ge off, 3)) (ht : (pc : Int) + off = (tgt : Int)) (kt : y ≤ x → AW X n h k sl tgt L st) (kf : ¬ y ≤ x → AW X n h k sl (pc + 3) L st)  : AW X n h k sl pc L (.int y :: .int x :: st) := by
  obtain ⟨p, l, e, R, s, m, args, below, meth, c, Q, E, nL⟩ := X
  obtain ⟨hx, hb, hml, hown, hts, hK, hlk, hr, hR, hQ⟩ := hX
  intro H locs ls hW hS hz hl
  exact lv_icmp_ge hx hb hdg ht (fun q => kt q H locs ls hW hS hz hl) (fun q => kf q H locs ls hW hS hz hl)

theorem aw_icmp_gt {X : CX} {own : String} {bytes : ByteArray} {ret : Option FieldType} {fr lo mc ms n1 : Nat} {post : Option Value → HP → Prop} {n k sl pc : Nat} {h : HP} {L : List (Option Value)} {st : List Value} (hX : Cx X own bytes ret fr lo mc ms n1 post) {x y : Int32} {off : Int} (tgt : Nat) (hdg : decode bytes pc = .ok (.if_icmp .gt off, 3)) (ht : (pc : Int) + off = (tgt : Int)) (kt : y < x → AW X n h k sl tgt L st) (kf : ¬ y < x → AW X n h k sl (pc + 3) L st)  : AW X n h k sl pc L (.int y :: .int x :: st) := by
  obtain ⟨p, l, e, R, s, m, args, below, meth, c, Q, E, nL⟩ := X
  obtain ⟨hx, hb, hml, hown, hts, hK, hlk, hr, hR, hQ⟩ := hX
  intro H locs ls hW hS hz hl
  exact lv_icmp_gt hx hb hdg ht (fun q => kt q H locs ls hW hS hz hl) (fun q => kf q H locs ls hW hS hz hl)

theorem aw_icmp_le {X : CX} {own : String} {bytes : ByteArray} {ret : Option FieldType} {fr lo mc ms n1 : Nat} {post : Option Value → HP → Prop} {n k sl pc : Nat} {h : HP} {L : List (Option Value)} {st : List Value} (hX : Cx X own bytes ret fr lo mc ms n1 post) {x y : Int32} {off : Int} (tgt : Nat) (hdg : decode bytes pc = .ok (.if_icmp .le off, 3)) (ht : (pc : Int) + off = (tgt : Int)) (kt : x ≤ y → AW X n h k sl tgt L st) (kf : ¬ x ≤ y → AW X n h k sl (pc + 3) L st)  : AW X n h k sl pc L (.int y :: .int x :: st) := by
  obtain ⟨p, l, e, R, s, m, args, below, meth, c, Q, E, nL⟩ := X
  obtain ⟨hx, hb, hml, hown, hts, hK, hlk, hr, hR, hQ⟩ := hX
  intro H locs ls hW hS hz hl
  exact lv_icmp_le hx hb hdg ht (fun q => kt q H locs ls hW hS hz hl) (fun q => kf q H locs ls hW hS hz hl)

theorem aw_goto {X : CX} {own : String} {bytes : ByteArray} {ret : Option FieldType} {fr lo mc ms n1 : Nat} {post : Option Value → HP → Prop} {n k sl pc : Nat} {h : HP} {L : List (Option Value)} {st : List Value} (hX : Cx X own bytes ret fr lo mc ms n1 post) {off : Int} (tgt : Nat) (hdg : decode bytes pc = .ok (.goto off, 3)) (ht : (pc : Int) + off = (tgt : Int)) (kk : AW X n h k sl tgt L st) : AW X n h k sl pc L st := by
  obtain ⟨p, l, e, R, s, m, args, below, meth, c, Q, E, nL⟩ := X
  obtain ⟨hx, hb, hml, hown, hts, hK, hlk, hr, hR, hQ⟩ := hX
  intro H locs ls hW hS hz hl
  exact lv_goto hx hb hdg ht (kk H locs ls hW hS hz hl)

theorem aw_ifnull {X : CX} {own : String} {bytes : ByteArray} {ret : Option FieldType} {fr lo mc ms n1 : Nat} {post : Option Value → HP → Prop} {n k sl pc : Nat} {h : HP} {L : List (Option Value)} {st : List Value} (hX : Cx X own bytes ret fr lo mc ms n1 post) {off : Int} {x : Nat} (hdg : decode bytes pc = .ok (.ifnull off, 3)) (kk : AW X n h k sl (pc + 3) L st) : AW X n h k sl pc L (.ref x :: st) := by
  obtain ⟨p, l, e, R, s, m, args, below, meth, c, Q, E, nL⟩ := X
  obtain ⟨hx, hb, hml, hown, hts, hK, hlk, hr, hR, hQ⟩ := hX
  intro H locs ls hW hS hz hl
  exact lv_ifnull hx hb hdg (kk H locs ls hW hS hz hl)

theorem aw_tabIn {X : CX} {own : String} {bytes : ByteArray} {ret : Option FieldType} {fr lo mc ms n1 : Nat} {post : Option Value → HP → Prop} {n k sl pc : Nat} {h : HP} {L : List (Option Value)} {st : List Value} (hX : Cx X own bytes ret fr lo mc ms n1 post) {dflt lw hi : Int} {offs : Array Int} {len : Nat} {x : Int32} {off : Int} (tgt : Nat) (hdg : decode bytes pc = .ok (.tableswitch dflt lw hi offs, len)) (h1 : ¬ x.toInt < lw) (h2 : ¬ hi < x.toInt) (ho : offs[(x.toInt - lw).toNat]? = some off) (ht : (pc : Int) + off = (tgt : Int)) (kk : AW X n h k sl tgt L st) : AW X n h k sl pc L (.int x :: st) := by
  obtain ⟨p, l, e, R, s, m, args, below, meth, c, Q, E, nL⟩ := X
  obtain ⟨hx, hb, hml, hown, hts, hK, hlk, hr, hR, hQ⟩ := hX
  intro H locs ls hW hS hz hl
  exact lv_tableIn hx hb hdg h1 h2 ho ht (kk H locs ls hW hS hz hl)

theorem aw_tabOut {X : CX} {own : String} {bytes : ByteArray} {ret : Option FieldType} {fr lo mc ms n1 : Nat} {post : Option Value → HP → Prop} {n k sl pc : Nat} {h : HP} {L : List (Option Value)} {st : List Value} (hX : Cx X own bytes ret fr lo mc ms n1 post) {dflt lw hi : Int} {offs : Array Int} {len : Nat} {x : Int32} (tgt : Nat) (hdg : decode bytes pc = .ok (.tableswitch dflt lw hi offs, len)) (h1 : x.toInt < lw ∨ hi < x.toInt) (ht : (pc : Int) + dflt = (tgt : Int)) (kk : AW X n h k sl tgt L st) : AW X n h k sl pc L (.int x :: st) := by
  obtain ⟨p, l, e, R, s, m, args, below, meth, c, Q, E, nL⟩ := X
  obtain ⟨hx, hb, hml, hown, hts, hK, hlk, hr, hR, hQ⟩ := hX
  intro H locs ls hW hS hz hl
  exact lv_tableOut hx hb hdg h1 ht (kk H locs ls hW hS hz hl)

theorem aw_ldc {X : CX} {own : String} {bytes : ByteArray} {ret : Option FieldType} {fr lo mc ms n1 : Nat} {post : Option Value → HP → Prop} {n k sl pc : Nat} {h : HP} {L : List (Option Value)} {st : List Value} (hX : Cx X own bytes ret fr lo mc ms n1 post) {ix : Nat} {v : Int32} (hc : Cond.constant own ix v ∈ tbG) (hdg : decode bytes pc = .ok (.ldc ix, 2)) (kk : AW X n h k sl (pc + 2) L (.int v :: st)) : AW X n h k sl pc L st := by
  obtain ⟨p, l, e, R, s, m, args, below, meth, c, Q, E, nL⟩ := X
  obtain ⟨hx, hb, hml, hown, hts, hK, hlk, hr, hR, hQ⟩ := hX
  intro H locs ls hW hS hz hl
  exact lv_ldc hx hb hown (hts _ hc) hdg (kk H locs ls hW hS hz hl)

theorem aw_ldcw {X : CX} {own : String} {bytes : ByteArray} {ret : Option FieldType} {fr lo mc ms n1 : Nat} {post : Option Value → HP → Prop} {n k sl pc : Nat} {h : HP} {L : List (Option Value)} {st : List Value} (hX : Cx X own bytes ret fr lo mc ms n1 post) {ix : Nat} {v : Int32} (hc : Cond.constant own ix v ∈ tbG) (hdg : decode bytes pc = .ok (.ldc_w ix, 3)) (kk : AW X n h k sl (pc + 3) L (.int v :: st)) : AW X n h k sl pc L st := by
  obtain ⟨p, l, e, R, s, m, args, below, meth, c, Q, E, nL⟩ := X
  obtain ⟨hx, hb, hml, hown, hts, hK, hlk, hr, hR, hQ⟩ := hX
  intro H locs ls hW hS hz hl
  exact lv_ldcw hx hb hown (hts _ hc) hdg (kk H locs ls hW hS hz hl)

theorem aw_alen {X : CX} {own : String} {bytes : ByteArray} {ret : Option FieldType} {fr lo mc ms n1 : Nat} {post : Option Value → HP → Prop} {n k sl pc : Nat} {h : HP} {L : List (Option Value)} {st : List Value} (hX : Cx X own bytes ret fr lo mc ms n1 post) {a t N : Nat} {z : (Nat → Int32) ⊕ (Nat → Option Nat)} (v : Int32) (hh : h a = some (.inl (t, N, z))) (ht : t < 3) (hv : Int32.ofNat N = v) (hdg : decode bytes pc = .ok (.arraylength, 1)) (kk : AW X n h k sl (pc + 1) L (.int v :: st)) : AW X n h k sl pc L (.ref a :: st) := by
  obtain ⟨p, l, e, R, s, m, args, below, meth, c, Q, E, nL⟩ := X
  obtain ⟨hx, hb, hml, hown, hts, hK, hlk, hr, hR, hQ⟩ := hX
  intro H locs ls hW hS hz hl
  obtain ⟨ws, q0, hP, hD, hq, -⟩ := Wd.list hW hh
  obtain ⟨ty, hty⟩ := tysE_at E ht
  rcases z with f | g
  · exact va_alen hx hb hK.1 hP q0 t hq hty hv hdg (kk H locs ls hW hS hz hl)
  · exact va_alen hx hb hK.1 hP q0 t hq hty hv hdg (kk H locs ls hW hS hz hl)

theorem aw_iald {X : CX} {own : String} {bytes : ByteArray} {ret : Option FieldType} {fr lo mc ms n1 : Nat} {post : Option Value → HP → Prop} {n k sl pc : Nat} {h : HP} {L : List (Option Value)} {st : List Value} (hX : Cx X own bytes ret fr lo mc ms n1 post) {a N : Nat} {f : Nat → Int32} {i : Int32} (hh : h a = some (cI N f)) (hin : vp_in i N) (hdg : decode bytes pc = .ok (.iaload, 1)) (kk : AW X n h k sl (pc + 1) L (.int (f i.toNatClampNeg) :: st)) : AW X n h k sl pc L (.int i :: .ref a :: st) := by
  obtain ⟨p, l, e, R, s, m, args, below, meth, c, Q, E, nL⟩ := X
  obtain ⟨hx, hb, hml, hown, hts, hK, hlk, hr, hR, hQ⟩ := hX
  intro H locs ls hW hS hz hl
  obtain ⟨ws, q0, hP, hD, hq, -⟩ := Wd.list hW hh
  exact va_iald hx hb hK.1 hP q0 0 hq rfl hin hdg (kk H locs ls hW hS hz hl)

theorem aw_iast {X : CX} {own : String} {bytes : ByteArray} {ret : Option FieldType} {fr lo mc ms n1 : Nat} {post : Option Value → HP → Prop} {n k sl pc : Nat} {h : HP} {L : List (Option Value)} {st : List Value} (hX : Cx X own bytes ret fr lo mc ms n1 post) {a N : Nat} {f : Nat → Int32} {i x : Int32} (hh : h a = some (cI N f)) (hin : vp_in i N) (hdg : decode bytes pc = .ok (.iastore, 1)) (kk : AW X n (hset h a (cI N (upd f i.toNatClampNeg x))) k sl (pc + 1) L st) : AW X n h k sl pc L (.int x :: .int i :: .ref a :: st) := by
  obtain ⟨p, l, e, R, s, m, args, below, meth, c, Q, E, nL⟩ := X
  obtain ⟨hx, hb, hml, hown, hts, hK, hlk, hr, hR, hQ⟩ := hX
  intro H locs ls hW hS hz hl
  obtain ⟨ws, q0, hP, hD, hq, hback⟩ := Wd.list hW hh
  refine va_iast hx hb hK.1 hP hD hS q0 0 hq rfl hin hdg (fun H1 locs1 hP1 hD1 hS1 => W.sz (fun hsz => ?_))
  obtain ⟨hW1, hz1⟩ := hback (cI N (upd f i.toNatClampNeg x)) H1 hP1 (by omega)
  exact kk H1 locs1 ls hW1 hS1 (by omega) hl

theorem aw_aald {X : CX} {own : String} {bytes : ByteArray} {ret : Option FieldType} {fr lo mc ms n1 : Nat} {post : Option Value → HP → Prop} {n k sl pc : Nat} {h : HP} {L : List (Option Value)} {st : List Value} (hX : Cx X own bytes ret fr lo mc ms n1 post) {a t N b : Nat} {g : Nat → Option Nat} {i : Int32} (hh : h a = some (cG t N g)) (ht : t = 1 ∨ t = 2) (hin : vp_in i N) (hb2 : g i.toNatClampNeg = some b) (hdg : decode bytes pc = .ok (.aaload, 1)) (kk : AW X n h k sl (pc + 1) L (.ref b :: st)) : AW X n h k sl pc L (.int i :: .ref a :: st) := by
  obtain ⟨p, l, e, R, s, m, args, below, meth, c, Q, E, nL⟩ := X
  obtain ⟨hx, hb, hml, hown, hts, hK, hlk, hr, hR, hQ⟩ := hX
  intro H locs ls hW hS hz hl
  obtain ⟨ws, q0, hP, hD, hq, -⟩ := Wd.list hW hh
  have hlt : i.toNatClampNeg < N := Nat.not_le.mp fun q => hin (Or.inr q)
  have hv : (arrV (eC E t) N (fun j => va_rf ((g j).map (ad E)))).slots[i.toNatClampNeg]? = some (.ref (ad E b)) := by
    rw [arrV_read _ _ hlt, hb2]
    rfl
  rcases ht with rfl | rfl
  · exact W.aald (ty := .array .int) hx hb (hP q0 _ hq) ((hK.1.2 1 _ rfl).1 N (fun j => va_rf ((g j).map (ad E)))) rfl (fun q => by cases q) (by show ¬ (i < 0 ∨ (arrV _ _ _).slots.size ≤ _); rw [arrV_size]; exact hin) hv rfl rfl hdg (kk H locs ls hW hS hz hl)
  · exact W.aald (ty := .object RX8) hx hb (hP q0 _ hq) ((hK.1.2 2 _ rfl).1 N (fun j => va_rf ((g j).map (ad E)))) rfl (fun q => by cases q) (by show ¬ (i < 0 ∨ (arrV _ _ _).slots.size ≤ _); rw [arrV_size]; exact hin) hv rfl rfl hdg (kk H locs ls hW hS hz hl)

theorem aw_roald {X : CX} {own : String} {bytes : ByteArray} {ret : Option FieldType} {fr lo mc ms n1 : Nat} {post : Option Value → HP → Prop} {n k sl pc : Nat} {h : HP} {L : List (Option Value)} {st : List Value} (hX : Cx X own bytes ret fr lo mc ms n1 post) {a : Nat} {i : Int32} (ha : a < 5) (hin : vp_in i (eN X.E a)) (hdg : decode bytes pc = .ok (.iaload, 1)) (kk : AW X n h k sl (pc + 1) L (.int (eF X.E a i.toNatClampNeg) :: st)) : AW X n h k sl pc L (.int i :: .ref a :: st) := by
  obtain ⟨p, l, e, R, s, m, args, below, meth, c, Q, E, nL⟩ := X
  obtain ⟨hx, hb, hml, hown, hts, hK, hlk, hr, hR, hQ⟩ := hX
  intro H locs ls hW hS hz hl
  have e1 : cv E (.ref a) = .ref (eT E a) := by simp [cv, ad, ha]
  show W p l e R s m args below meth c H locs k sl Q (F0 m pc ls (.int i :: cv E (.ref a) :: st.map (cv E)))
  rw [e1]
  exact va_ti hx hb (hK.2.2.1 a ha) hS hin rfl hdg (kk H locs ls hW hS hz hl)

theorem aw_rolen {X : CX} {own : String} {bytes : ByteArray} {ret : Option FieldType} {fr lo mc ms n1 : Nat} {post : Option Value → HP → Prop} {n k sl pc : Nat} {h : HP} {L : List (Option Value)} {st : List Value} (hX : Cx X own bytes ret fr lo mc ms n1 post) {a : Nat} (v : Int32) (ha : a < 5) (hv : Int32.ofNat (eN X.E a) = v) (hdg : decode bytes pc = .ok (.arraylength, 1)) (kk : AW X n h k sl (pc + 1) L (.int v :: st)) : AW X n h k sl pc L (.ref a :: st) := by
  obtain ⟨p, l, e, R, s, m, args, below, meth, c, Q, E, nL⟩ := X
  obtain ⟨hx, hb, hml, hown, hts, hK, hlk, hr, hR, hQ⟩ := hX
  intro H locs ls hW hS hz hl
  have e1 : cv E (.ref a) = .ref (eT E a) := by simp [cv, ad, ha]
  show W p l e R s m args below meth c H locs k sl Q (F0 m pc ls (cv E (.ref a) :: st.map (cv E)))
  rw [e1]
  exact va_tlen hx hb (hK.2.2.1 a ha) hS hv hdg (kk H locs ls hW hS hz hl)

theorem aw_gets {X : CX} {own : String} {bytes : ByteArray} {ret : Option FieldType} {fr lo mc ms n1 : Nat} {post : Option Value → HP → Prop} {n k sl pc : Nat} {h : HP} {L : List (Option Value)} {st : List Value} (hX : Cx X own bytes ret fr lo mc ms n1 post) {a ix : Nat} {nm : String} (hF : (nm = "FIRST_NUMBERS" ∧ a = 0) ∨ (nm = "LEAST_NUMBERS" ∧ a = 1) ∨ (nm = "MOST_NUMBERS" ∧ a = 2) ∨ (nm = "SHIFTS" ∧ a = 3)) (hlink : Cond.fieldLink own ix RX9 nm "[I" ∈ tbG) (hdg : decode bytes pc = .ok (.getstatic ix, 3)) (kk : AW X n h k sl (pc + 3) L (.ref a :: st)) : AW X n h k sl pc L st := by
  obtain ⟨p, l, e, R, s, m, args, below, meth, c, Q, E, nL⟩ := X
  obtain ⟨hx, hb, hml, hown, hts, hK, hlk, hr, hR, hQ⟩ := hX
  intro H locs ls hW hS hz hl
  obtain ⟨z0, z1, z2, z3⟩ := hK.2.1
  have hk := kk H locs ls hW hS hz hl
  rcases hF with ⟨rfl, rfl⟩ | ⟨rfl, rfl⟩ | ⟨rfl, rfl⟩ | ⟨rfl, rfl⟩
  · exact va_gets hx hb z0 hS hown (hts _ hlink) (fun _ q => q) hdg hk
  · exact va_gets hx hb z1 hS hown (hts _ hlink) (fun _ q => q) hdg hk
  · exact va_gets hx hb z2 hS hown (hts _ hlink) (fun _ q => q) hdg hk
  · exact va_gets hx hb z3 hS hown (hts _ hlink) (fun _ q => q) hdg hk

theorem aw_getsN {X : CX} {own : String} {bytes : ByteArray} {ret : Option FieldType} {fr lo mc ms n1 : Nat} {post : Option Value → HP → Prop} {n k sl pc : Nat} {h : HP} {L : List (Option Value)} {st : List Value} (hX : Cx X own bytes ret fr lo mc ms n1 post) {a ix : Nat} {nm host : String} (own2 : String) (ho : own2 = own) (hF : (nm = "FIRST_NUMBERS" ∧ a = 0) ∨ (nm = "LEAST_NUMBERS" ∧ a = 1) ∨ (nm = "MOST_NUMBERS" ∧ a = 2) ∨ (nm = "SHIFTS" ∧ a = 3)) (hlink : Cond.fieldLinkNest own2 ix RX9 nm "[I" host ∈ lw_tbl) (hdg : decode bytes pc = .ok (.getstatic ix, 3)) (kk : AW X n h k sl (pc + 3) L (.ref a :: st)) : AW X n h k sl pc L st := by
  obtain ⟨p, l, e, R, s, m, args, below, meth, c, Q, E, nL⟩ := X
  obtain ⟨hx, hb, hml, hown, hts, hK, hlk, hr, hR, hQ⟩ := hX
  intro H locs ls hW hS hz hl
  subst ho
  obtain ⟨z0, z1, z2, z3⟩ := hK.2.1
  have hk := kk H locs ls hW hS hz hl
  rcases hF with ⟨rfl, rfl⟩ | ⟨rfl, rfl⟩ | ⟨rfl, rfl⟩ | ⟨rfl, rfl⟩
  · exact va_getsN hx hb z0 hS hown (hK.nest hlink rfl) (fun _ q => q) hdg hk
  · exact va_getsN hx hb z1 hS hown (hK.nest hlink rfl) (fun _ q => q) hdg hk
  · exact va_getsN hx hb z2 hS hown (hK.nest hlink rfl) (fun _ q => q) hdg hk
  · exact va_getsN hx hb z3 hS hown (hK.nest hlink rfl) (fun _ q => q) hdg hk

theorem aw_get {X : CX} {own : String} {bytes : ByteArray} {ret : Option FieldType} {fr lo mc ms n1 : Nat} {post : Option Value → HP → Prop} {n k sl pc : Nat} {h : HP} {L : List (Option Value)} {st : List Value} (hX : Cx X own bytes ret fr lo mc ms n1 post) {own2 C : String} {T : u_T} {N ci ix a : Nat} {fs : List Value} {v : Value} (k0 : Nat) (ho : own2 = own) (hc : vwCl[ci]? = some (C, T, N)) (hin : ∀ w ∈ u_ws C T N, w ∈ tbG) (hlink : Cond.fieldLink own2 ix (T k0).1 (T k0).2.1 (T k0).2.2.1 ∈ tbG) (hk0 : k0 < N) (hh : h a = some (cO ci fs)) (hv : fs[k0]? = some v) (hdg : decode bytes pc = .ok (.getfield ix, 3)) (kk : AW X n h k sl (pc + 3) L (v :: st)) : AW X n h k sl pc L (.ref a :: st) := by
  obtain ⟨p, l, e, R, s, m, args, below, meth, c, Q, E, nL⟩ := X
  obtain ⟨hx, hb, hml, hown, hts, hK, hlk, hr, hR, hQ⟩ := hX
  intro H locs ls hW hS hz hl
  subst ho
  obtain ⟨ws, q0, hP, hD, hq, -⟩ := Wd.list hW hh
  exact va_get hx hb hts hin hown hK.1 hP q0 hq hc k0 hk0 (hts _ hlink) (fun _ q => q) (by rw [List.getElem?_map, hv]; rfl) hdg (kk H locs ls hW hS hz hl)

theorem aw_getN {X : CX} {own : String} {bytes : ByteArray} {ret : Option FieldType} {fr lo mc ms n1 : Nat} {post : Option Value → HP → Prop} {n k sl pc : Nat} {h : HP} {L : List (Option Value)} {st : List Value} (hX : Cx X own bytes ret fr lo mc ms n1 post) {own2 C host : String} {T : u_T} {N ci ix a : Nat} {fs : List Value} {v : Value} (k0 : Nat) (ho : own2 = own) (hc : vwCl[ci]? = some (C, T, N)) (hin : ∀ w ∈ u_ws C T N, w ∈ tbG) (hlink : Cond.fieldLinkNest own2 ix (T k0).1 (T k0).2.1 (T k0).2.2.1 host ∈ lw_tbl) (hk0 : k0 < N) (hh : h a = some (cO ci fs)) (hv : fs[k0]? = some v) (hdg : decode bytes pc = .ok (.getfield ix, 3)) (kk : AW X n h k sl (pc + 3) L (v :: st)) : AW X n h k sl pc L (.ref a :: st) := by
  obtain ⟨p, l, e, R, s, m, args, below, meth, c, Q, E, nL⟩ := X
  obtain ⟨hx, hb, hml, hown, hts, hK, hlk, hr, hR, hQ⟩ := hX
  intro H locs ls hW hS hz hl
  subst ho
  obtain ⟨ws, q0, hP, hD, hq, -⟩ := Wd.list hW hh
  exact va_getN hx hb hts hin hown hK.1 hP q0 hq hc k0 hk0 (hK.nest hlink rfl) (fun _ q => q) (by rw [List.getElem?_map, hv]; rfl) hdg (kk H locs ls hW hS hz hl)

theorem aw_put {X : CX} {own : String} {bytes : ByteArray} {ret : Option FieldType} {fr lo mc ms n1 : Nat} {post : Option Value → HP → Prop} {n k sl pc : Nat} {h : HP} {L : List (Option Value)} {st : List Value} (hX : Cx X own bytes ret fr lo mc ms n1 post) {own2 C : String} {T : u_T} {N ci ix a : Nat} {fs : List Value} {v : Value} {ty : FieldType} (k0 : Nat) (ho : own2 = own) (hc : vwCl[ci]? = some (C, T, N)) (hin : ∀ w ∈ u_ws C T N, w ∈ tbG) (ty0 : Nat → FieldType) (hty : ∀ k, k < N → parseFieldDescriptor (T k).2.2.1 = some (ty0 k)) (hnm : ∀ a, a < N → ∀ b, b < N → a ≠ b → (T a).2.1 ≠ (T b).2.1) (hlink : Cond.fieldLink own2 ix (T k0).1 (T k0).2.1 (T k0).2.2.1 ∈ tbG) (hk0 : k0 < N) (hfin : (T k0).2.2.2 = false) (hd : parseFieldDescriptor (T k0).2.2.1 = some ty) (hn : narrow ty (cv X.E v) = cv X.E v) (hft : fits ty (cv X.E v) = true) (hh : h a = some (cO ci fs)) (hlen : k0 < fs.length) (hdg : decode bytes pc = .ok (.putfield ix, 3)) (kk : AW X n (hset h a (cO ci (fs.set k0 v))) k sl (pc + 3) L st) : AW X n h k sl pc L (v :: .ref a :: st) := by
  obtain ⟨p, l, e, R, s, m, args, below, meth, c, Q, E, nL⟩ := X
  obtain ⟨hx, hb, hml, hown, hts, hK, hlk, hr, hR, hQ⟩ := hX
  intro H locs ls hW hS hz hl
  subst ho
  obtain ⟨ws, q0, hP, hD, hq, hback⟩ := Wd.list hW hh
  refine va_put hx hb hts hin ty0 hty hnm hown hK.1 hP hD hS q0 hq hc k0 hk0 (hts _ hlink) (fun _ q => q) hfin  hd (ty := ty) hn hft (by rw [List.length_map]; exact hlen) hdg (fun H1 locs1 hP1 hD1 hS1 => W.sz (fun hsz => ?_))
  rw [← cc_set E ci fs k0] at hP1
  obtain ⟨hW1, hz1⟩ := hback (cO ci (fs.set k0 v)) H1 hP1 (by omega)
  exact kk H1 locs1 ls hW1 hS1 (by omega) hl

theorem aw_putF {X : CX} {own : String} {bytes : ByteArray} {ret : Option FieldType} {fr lo mc ms n1 : Nat} {post : Option Value → HP → Prop} {n k sl pc : Nat} {h : HP} {L : List (Option Value)} {st : List Value} (hX : Cx X own bytes ret fr lo mc ms n1 post) {own2 C : String} {T : u_T} {N ci ix a : Nat} {fs : List Value} {v : Value} {ty : FieldType} (k0 : Nat) (ho : own2 = own) (hc : vwCl[ci]? = some (C, T, N)) (hin : ∀ w ∈ u_ws C T N, w ∈ tbG) (ty0 : Nat → FieldType) (hty : ∀ k, k < N → parseFieldDescriptor (T k).2.2.1 = some (ty0 k)) (hnm : ∀ a, a < N → ∀ b, b < N → a ≠ b → (T a).2.1 ≠ (T b).2.1) (hlink : Cond.fieldLink own2 ix (T k0).1 (T k0).2.1 (T k0).2.2.1 ∈ tbG) (hk0 : k0 < N) (hfin : (T k0).2.2.2 = true) (hini : X.2.2.2.2.2.2.2.2.1.name = "<init>") (hdecl : (T k0).1 = own2) (hd : parseFieldDescriptor (T k0).2.2.1 = some ty) (hn : narrow ty (cv X.E v) = cv X.E v) (hft : fits ty (cv X.E v) = true) (hh : h a = some (cO ci fs)) (hlen : k0 < fs.length) (hdg : decode bytes pc = .ok (.putfield ix, 3)) (kk : AW X n (hset h a (cO ci (fs.set k0 v))) k sl (pc + 3) L st) : AW X n h k sl pc L (v :: .ref a :: st) := by
  obtain ⟨p, l, e, R, s, m, args, below, meth, c, Q, E, nL⟩ := X
  obtain ⟨hx, hb, hml, hown, hts, hK, hlk, hr, hR, hQ⟩ := hX
  intro H locs ls hW hS hz hl
  subst ho
  obtain ⟨ws, q0, hP, hD, hq, hback⟩ := Wd.list hW hh
  refine va_putF hx hb hts hin ty0 hty hnm hown hK.1 hP hD hS q0 hq hc k0 hk0 (hts _ hlink) (fun _ q => q) hfin hini hdecl hd (ty := ty) hn hft (by rw [List.length_map]; exact hlen) hdg (fun H1 locs1 hP1 hD1 hS1 => W.sz (fun hsz => ?_))
  rw [← cc_set E ci fs k0] at hP1
  obtain ⟨hW1, hz1⟩ := hback (cO ci (fs.set k0 v)) H1 hP1 (by omega)
  exact kk H1 locs1 ls hW1 hS1 (by omega) hl

theorem aw_iret {X : CX} {own : String} {bytes : ByteArray} {ret : Option FieldType} {fr lo mc ms n1 : Nat} {post : Option Value → HP → Prop} {n k sl pc : Nat} {h : HP} {L : List (Option Value)} {st : List Value} (hX : Cx X own bytes ret fr lo mc ms n1 post) {v : Int32} (hr1 : ret = some .int) (hn1 : n1 = n) (hk1 : mc = k) (hs1 : ms = sl) (hdg : decode bytes pc = .ok (.ireturn, 1)) (hp : post (some (.int v)) h)  : AW X n h k sl pc L [.int v] := by
  obtain ⟨p, l, e, R, s, m, args, below, meth, c, Q, E, nL⟩ := X
  obtain ⟨hx, hb, hml, hown, hts, hK, hlk, hr, hR, hQ⟩ := hX
  intro H locs ls hW hS hz hl
  subst hQ
  subst hn1
  subst hk1
  subst hs1
  exact W.iret hx hb (hr.trans hr1) (fun t ht _ => ⟨⟨some (.int v), h, rfl, hp, by rw [ht]; exact hW⟩, hS.F ht⟩) hS.2.2 hdg hlk

theorem aw_zret {X : CX} {own : String} {bytes : ByteArray} {ret : Option FieldType} {fr lo mc ms n1 : Nat} {post : Option Value → HP → Prop} {n k sl pc : Nat} {h : HP} {L : List (Option Value)} {st : List Value} (hX : Cx X own bytes ret fr lo mc ms n1 post) {v : Int32} (hr1 : ret = some .boolean) (hv : v = 0 ∨ v = 1) (hn1 : n1 = n) (hk1 : mc = k) (hs1 : ms = sl) (hdg : decode bytes pc = .ok (.ireturn, 1)) (hp : post (some (.int v)) h)  : AW X n h k sl pc L [.int v] := by
  obtain ⟨p, l, e, R, s, m, args, below, meth, c, Q, E, nL⟩ := X
  obtain ⟨hx, hb, hml, hown, hts, hK, hlk, hr, hR, hQ⟩ := hX
  intro H locs ls hW hS hz hl
  subst hQ
  subst hn1
  subst hk1
  subst hs1
  exact W.zret hx hb (hr.trans hr1) (by rcases hv with rfl | rfl <;> rfl) (fun t ht _ => ⟨⟨some (.int v), h, rfl, hp, by rw [ht]; exact hW⟩, hS.F ht⟩) hS.2.2 hdg hlk

theorem aw_vret {X : CX} {own : String} {bytes : ByteArray} {ret : Option FieldType} {fr lo mc ms n1 : Nat} {post : Option Value → HP → Prop} {n k sl pc : Nat} {h : HP} {L : List (Option Value)} {st : List Value} (hX : Cx X own bytes ret fr lo mc ms n1 post) (hr1 : ret = none) (hn1 : n1 = n) (hk1 : mc = k) (hs1 : ms = sl) (hdg : decode bytes pc = .ok (.return_, 1)) (hp : post none h)  : AW X n h k sl pc L [] := by
  obtain ⟨p, l, e, R, s, m, args, below, meth, c, Q, E, nL⟩ := X
  obtain ⟨hx, hb, hml, hown, hts, hK, hlk, hr, hR, hQ⟩ := hX
  intro H locs ls hW hS hz hl
  subst hQ
  subst hn1
  subst hk1
  subst hs1
  exact W.vret hx hb (hr.trans hr1) (fun t ht _ => ⟨⟨none, h, rfl, hp, by rw [ht]; exact hW⟩, hS.F ht⟩) hS.2.2 hdg hlk

theorem aw_aret {X : CX} {own : String} {bytes : ByteArray} {ret : Option FieldType} {fr lo mc ms n1 : Nat} {post : Option Value → HP → Prop} {n k sl pc : Nat} {h : HP} {L : List (Option Value)} {st : List Value} (hX : Cx X own bytes ret fr lo mc ms n1 post) {a : Nat} {nm : String} (hr1 : ret = some (.object nm)) (hn1 : n1 = n) (hk1 : mc = k) (hs1 : ms = sl) (hdg : decode bytes pc = .ok (.areturn, 1)) (hp : post (some (.ref a)) h)  : AW X n h k sl pc L [.ref a] := by
  obtain ⟨p, l, e, R, s, m, args, below, meth, c, Q, E, nL⟩ := X
  obtain ⟨hx, hb, hml, hown, hts, hK, hlk, hr, hR, hQ⟩ := hX
  intro H locs ls hW hS hz hl
  subst hQ
  subst hn1
  subst hk1
  subst hs1
  exact W.aret hx hb (hr.trans hr1) (Or.inl ⟨_, rfl⟩) (Or.inr ⟨_, rfl⟩) (fun t ht _ => ⟨⟨some (.ref a), h, rfl, hp, by rw [ht]; exact hW⟩, hS.F ht⟩) hS.2.2 hdg hlk
end
section
/-! calls over the abstract world -/
theorem tb_in {y : MethodName} {b : ByteArray} {nL : Nat} {ret : Option FieldType} (hc : Cond.code y b nL ret ∈ tbG) : GoodIn tbG (.code y b nL ret :: tbG) := by
  intro w hw
  have h1 : w ∈ tbG := by
    rcases List.mem_cons.mp hw with rfl | h
    · exact hc
    · exact h
  exact ⟨h1, good_of_word (List.mem_filter.mp h1).2⟩
theorem Wd.szk {E : EV} {n n' d k : Nat} {h h' : HP} {H H1 : Heap} {z : Nat} (hW : Wd E n h H) (hW1 : Wd E n' h' H1) (hn : n' = n + d) (hz : H.size = z + k) : H1.size = z + (k + d) := by
  have h1 := hW.2.1
  have h2 := hW1.2.1
  have h3 := hW.1
  omega
/-- what the tables say of a method -/
def MF (y : MethodName) (b : ByteArray) (nL : Nat) (ret : Option FieldType) (np : Nat) : Prop :=
  Cond.code y b nL ret ∈ tbG ∧ Cond.initialized y.cls ∈ tbG ∧ (y.cls ≠ "java/lang/invoke/MethodHandle" ∧ y.cls ≠ "java/lang/invoke/VarHandle" ∧ (parseMethodDescriptor y.desc).map (fun d => d.parameters.length) = some np) ∧ plainFor y = true
theorem va_F.refl {A : Nat → Prop} (s : State) : va_F A s s := ⟨Nat.le_refl _, fun _ _ _ => rfl⟩
theorem Met.ofWF {l : Launch} {y : MethodName} {ws ws' : List Cond} {rm : Room} {Pc : Array Value → State → Prop} {Qc : Array Value → State → Outcome → State → Prop} {mc ms : Nat} {free : Addr → Prop} {b : ByteArray} {maxL : Nat} {ret : Option FieldType} (hy : plainFor y = true) (hw : ws = Cond.code y b maxL ret :: ws')
    (body : ∀ p e s m args below meth c s₁, BodyLoose p l y (headSpec ws rm) b maxL ret e s m args below meth c s₁ → c.maxLocals = maxL → Pc args s →
      W p l e (headSpec ws rm).room s m args below meth c s.heap [] 0 0 (MQ below Qc args s mc ms free) (entryFrame m args maxL)) : Met l y ws rm Pc Qc mc ms free := by
  refine MetFree.of_bodySF (code := b) (maxLocals := maxL) (ret := ret) hy ?_ ?_
  · intro args s m h hn
    obtain ⟨meth, c, h1, h2, h3, h4, h5, h6, -, -⟩ := Cond.code_spec hn (atoms_spec (ws := ws) h _ (by rw [hw]; exact List.mem_cons_self))
    exact ⟨meth, c, h1, h2, h3, h4, h5, h6⟩
  · intro p e s m args below meth c s₁ B hml hP _
    obtain ⟨t, a1, o, b1, b2, b3⟩ := body p e s m args below meth c s₁ B hml hP s₁ (by rw [B.state]; rfl) (Stand.of_body B)
    exact ⟨t, o, a1, b1, b2, b3.1, b3.2⟩
/-- a contract out of the walk of its body -/
theorem AM.intro {l : Launch} {y : MethodName} {b : ByteArray} {nL np : Nat} {ret : Option FieldType} {fr lo mc ms : Nat} {E : EV} {n : Nat} {h : HP} {As : List Value} {post : Option Value → HP → Prop} (hy : MF y b nL ret np) (hcat : ∀ v ∈ As, v.category = 1) (hlen : As.length ≤ nL)
    (body : ∀ X : CX, X.l = l → X.E = E → X.2.2.2.2.2.2.2.2.1.name = y.name → Cx X y.cls b ret fr lo mc ms (n + mc) post → AW X n h 0 0 0 (As.map some ++ List.replicate (nL - As.length) none) []) : AM l y b nL ret fr lo mc ms E n h As post := by
  refine Met.ofWF (b := b) (maxL := nL) (ret := ret) hy.2.2.2 rfl ?_
  intro p e s m args below meth c s₁ B hml hv
  obtain ⟨rfl, hW, hK⟩ := hv
  have hts := atoms_spec (ws := .code y b nL ret :: tbG) B.pre
  have hb := body (p, l, e, (headSpec (.code y b nL ret :: tbG) (rmA fr lo mc ms)).room, s, m, (As.map (cv E)).toArray, below, meth, c, MQ below (AQ E (n + mc) post) (As.map (cv E)).toArray s mc ms (eA E), E, nL) rfl rfl
    (name_of_methodNamed B.named B.method).1
    ⟨B.exec, B.bytes, hml, findClass_of_methodNamed B.named, fun w hw => hts w (List.mem_cons_of_mem _ hw), hK, B.notSynchronized, B.returns, rfl, rfl⟩
  rw [lg_entry_eq]
  have hcat' : ∀ v ∈ As.map (cv E), v.category = 1 := by
    intro v hv
    obtain ⟨w, h1, rfl⟩ := List.mem_map.mp hv
    exact (cv_cat E w).trans (hcat w h1)
  have hsl : lg_sl (As.map (cv E)) = (As.map (cv E)).map Slot.val := lg_sl_one _ hcat'
  have hle : (lg_sl (As.map (cv E))).length ≤ nL := by rw [hsl, List.length_map, List.length_map]; exact hlen
  have hl := lv_entry (As.map (cv E)) (n := nL) hle
  refine hb s.heap [] _ hW va_S.rf rfl ⟨hl.1, hl.2.1, ?_, ?_⟩
  · rw [List.length_append, List.length_map, List.length_replicate]
    omega
  · intro i v hi
    rcases Nat.lt_or_ge i As.length with q | q
    · rw [List.getElem?_append_left (by rw [List.length_map]; exact q), List.getElem?_map] at hi
      obtain ⟨w, h1, h2⟩ := Option.map_eq_some_iff.mp hi
      cases h2
      refine ⟨?_, hcat _ (List.mem_of_getElem? h1)⟩
      rw [hsl, List.getElem?_toArray, List.getElem?_append_left (by rw [List.length_map, List.length_map]; exact q), List.getElem?_map, List.getElem?_map, h1]
      rfl
    · rw [List.getElem?_append_right (by rw [List.length_map]; exact q)] at hi
      have := List.mem_of_getElem? hi
      exact absurd (List.eq_of_mem_replicate this) (by simp)
theorem blindA {E : EV} {n : Nat} {h : HP} {As : List Value} : FrameBlind (va_Pc As (fun U => Wd E n h U.heap ∧ Ks E U)) := fun a U g mk q =>
  ⟨q.1, q.2.1, q.2.2.moved (u := U) (U := U.calling g mk a) (State.WarmedH.refl U) (Nat.le_refl _) (fun _ _ _ => rfl)⟩
theorem W.ofRun {p : Program} {l : Launch} {e : Env} {R : Room} {s : State} {m : MethodId} {args a : Array Value} {below : List Frame} {meth : Method} {c : Code} {H : Heap} {locs : List Loc} {cells slots mc ms pc n' : Nat} {ls : Array Slot} {st0 rest : List Value} {Q : State → Prop} {E : EV} {post : Option Value → HP → Prop}
    (hr : va_Run p l e R s m args below meth c H locs cells slots mc ms (F0 m pc ls st0) rest (AQ E n' post a) (eA E)) (hS : va_S (eA E) s.heap H locs)
    (kk : ∀ (v : Option Value) (h' : HP) (H1 : Heap) (locs1 : List Loc), post v h' → Wd E n' h' H1 → va_S (eA E) s.heap H1 locs1 → W p l e R s m args below meth c H1 locs1 (cells + mc) (slots + ms) Q (F0 m (pc + 3) ls ((v.map (cv E)).toList ++ rest))) : W p l e R s m args below meth c H locs cells slots Q (F0 m pc ls st0) := by
  intro T hT X
  obtain ⟨v, st₀, t, T', L, h0, X', hL, e1, e2, ⟨⟨w, h', hv, hp, hw⟩, hz, hk⟩, st⟩ := hr T hT X
  cases hv
  rw [h0] at hz hk
  obtain ⟨t2, a1, b1⟩ := kk w h' T'.heap (locs ++ L) hp (by rw [e1]; exact hw)
    ⟨Nat.le_trans hS.1 (by rw [e1]; exact hz), fun q h1 h2 => by rw [e1, hk q (Nat.lt_of_lt_of_le h1 hS.1) h2]; exact hS.2.1 q h1 h2, fun q hq => by
      rcases List.mem_append.mp hq with h | h
      · exact hS.2.2 q h
      · exact hL q h⟩ T' rfl X'
  exact ⟨t2, st t2 a1, b1⟩
theorem cv_toList (E : EV) (v : Option Value) (st : List Value) : (v.map (cv E)).toList ++ st.map (cv E) = (v.toList ++ st).map (cv E) := by cases v <;> rfl
theorem cat_map (E : EV) (st : List Value) : ((st.map (cv E)).map fun v => v.category) = st.map fun v => v.category := by
  rw [List.map_map]
  exact List.map_congr_left (fun v _ => cv_cat E v)
theorem Ks.at {E : EV} {s U : State} {H : Heap} {locs : List Loc} (hK : Ks E s) (hS : va_S (eA E) s.heap H locs) (hU : U.heap = H) (hW : s.WarmedH U.vm) : Ks E U :=
  hK.moved hW (by rw [hU]; exact hS.1) (fun a h1 h2 => by rw [hU]; exact hS.2.1 a h1 h2)
section ACALL
variable {X : CX} {own : String} {bytes : ByteArray} {ret : Option FieldType} {fr lo mc ms n1 : Nat} {post : Option Value → HP → Prop} {n k sl pc : Nat} {h : HP} {L : List (Option Value)} {st st0 : List Value}
variable {y : MethodName} {b' : ByteArray} {nL' np : Nat} {ret' : Option FieldType} {fr' lo' mc' ms' ix a ci : Nat} {As fs : List Value} {post' : Option Value → HP → Prop} {C : String} {T : u_T} {N : Nat}
/-- an instance method of the class that the receiver has -/
theorem aw_callV (hX : Cx X own bytes ret fr lo mc ms n1 post) (own2 : String) (ho : own2 = own) (hM : AM X.l y b' nL' ret' fr' lo' mc' ms' X.E n h (.ref a :: As) post') (hy : MF y b' nL' ret' np) (hi : Cond.instanceMethod y ∈ tbG) (hsel : Cond.selects y.cls y y ∈ tbG) (hlink : Cond.methodLink own2 ix y ∈ tbG)
    (hh : h a = some (cO ci fs)) (hcl : vwCl[ci]? = some (y.cls, T, N)) (hnp : As.length = np) (hR : fr' + 1 ≤ fr ∧ 8 + (nL' + 11) + lo' ≤ lo) (hst : (st.map fun v => v.category).sum ≤ 8) (hdg : decode bytes pc = .ok (.invokevirtual ix, 3)) (hf : k + mc' ≤ mc ∧ sl + ms' ≤ ms) (hst0 : As.reverse ++ .ref a :: st = st0)
    (kk : ∀ v h', post' v h' → AW X (n + mc') h' (k + mc') (sl + ms') (pc + 3) L (v.toList ++ st)) : AW X n h k sl pc L st0 := by
  obtain ⟨p, l, e, R, s, m, args, below, meth, c, Q, E, nL⟩ := X
  obtain ⟨hx, hb, hml, hown, hts, hK, hlk, hr, rfl, hQ⟩ := hX
  subst ho
  subst hst0
  intro H locs ls hW hS hz hl
  obtain ⟨ws, q0, hP, hD, hq, -⟩ := Wd.list hW hh
  refine W.ofRun (va_runV (As := As.map (cv E)) (rest := st.map (cv E)) (b := ad E a) (C := y.cls) ⟨hx, hb, hml, hown, hts⟩ hM ⟨callB_of np hts (tb_in hy.1) rfl rfl rfl (hts _ hy.2.1) (hts _ hlink) hy.2.2.1 hR, hts _ hi, hts _ hsel⟩
    ⟨blindA, va_recv hK.1 hP hcl hq, fun U hU hWm => ⟨rfl, by rw [hU]; exact hW, hK.at hS hU hWm⟩⟩ rfl (by rw [List.length_map]; exact hnp) hl.1 (by simp [cv_ref]) (by rw [cat_map]; exact lv_room hst) hdg hf) hS (fun v h' H1 locs1 hp hW1 hS1 => ?_)
  rw [cv_toList]
  exact kk v h' hp H1 locs1 ls hW1 hS1 (Wd.szk hW hW1 rfl hz) hl
/-- the same, of a nest mate -/
theorem aw_callVN (hX : Cx X own bytes ret fr lo mc ms n1 post) (own2 host : String) (ho : own2 = own) (hM : AM X.l y b' nL' ret' fr' lo' mc' ms' X.E n h (.ref a :: As) post') (hy : MF y b' nL' ret' np) (hi : Cond.instanceMethod y ∈ tbG) (hsel : Cond.selects y.cls y y ∈ tbG) (hlink : Cond.methodLinkNest own2 ix y host ∈ lw_tbl)
    (hh : h a = some (cO ci fs)) (hcl : vwCl[ci]? = some (y.cls, T, N)) (hnp : As.length = np) (hR : fr' + 1 ≤ fr ∧ 8 + (nL' + 11) + lo' ≤ lo) (hst : (st.map fun v => v.category).sum ≤ 8) (hdg : decode bytes pc = .ok (.invokevirtual ix, 3)) (hf : k + mc' ≤ mc ∧ sl + ms' ≤ ms) (hst0 : As.reverse ++ .ref a :: st = st0)
    (kk : ∀ v h', post' v h' → AW X (n + mc') h' (k + mc') (sl + ms') (pc + 3) L (v.toList ++ st)) : AW X n h k sl pc L st0 := by
  obtain ⟨p, l, e, R, s, m, args, below, meth, c, Q, E, nL⟩ := X
  obtain ⟨hx, hb, hml, hown, hts, hK, hlk, hr, rfl, hQ⟩ := hX
  subst ho
  subst hst0
  intro H locs ls hW hS hz hl
  obtain ⟨ws, q0, hP, hD, hq, -⟩ := Wd.list hW hh
  refine W.ofRun (va_runVN (As := As.map (cv E)) (rest := st.map (cv E)) (b := ad E a) (C := y.cls) ⟨hx, hb, hml, hown, hts⟩ hM ⟨va_cnB np hts (tb_in hy.1) rfl rfl rfl (hK.nest hlink rfl) (hts _ hy.2.1) hy.2.2.1 hR, hts _ hi, hts _ hsel⟩
    ⟨blindA, va_recv hK.1 hP hcl hq, fun U hU hWm => ⟨rfl, by rw [hU]; exact hW, hK.at hS hU hWm⟩⟩ rfl (by rw [List.length_map]; exact hnp) hl.1 (by simp [cv_ref]) (by rw [cat_map]; exact lv_room hst) hdg hf) hS (fun v h' H1 locs1 hp hW1 hS1 => ?_)
  rw [cv_toList]
  exact kk v h' hp H1 locs1 ls hW1 hS1 (Wd.szk hW hW1 rfl hz) hl
/-- a static method -/
theorem aw_callS (hX : Cx X own bytes ret fr lo mc ms n1 post) (own2 : String) (ho : own2 = own) (hM : AM X.l y b' nL' ret' fr' lo' mc' ms' X.E n h As post') (hy : MF y b' nL' ret' np) (hs : Cond.static y ∈ tbG) (hlink : Cond.methodLink own2 ix y ∈ tbG)
    (hnp : As.length = np) (hR : fr' + 1 ≤ fr ∧ 8 + (nL' + 11) + lo' ≤ lo) (hst : (st.map fun v => v.category).sum ≤ 8) (hdg : decode bytes pc = .ok (.invokestatic ix, 3)) (hf : k + mc' ≤ mc ∧ sl + ms' ≤ ms) (hst0 : As.reverse ++ st = st0)
    (kk : ∀ v h', post' v h' → AW X (n + mc') h' (k + mc') (sl + ms') (pc + 3) L (v.toList ++ st)) : AW X n h k sl pc L st0 := by
  obtain ⟨p, l, e, R, s, m, args, below, meth, c, Q, E, nL⟩ := X
  obtain ⟨hx, hb, hml, hown, hts, hK, hlk, hr, rfl, hQ⟩ := hX
  subst ho
  subst hst0
  intro H locs ls hW hS hz hl
  refine W.ofRun (va_runS (As := As.map (cv E)) (rest := st.map (cv E)) ⟨hx, hb, hml, hown, hts⟩ hM ⟨callB_of np hts (tb_in hy.1) rfl rfl rfl (hts _ hy.2.1) (hts _ hlink) hy.2.2.1 hR, hts _ hs⟩
    ⟨blindA, fun U hU hWm => ⟨rfl, by rw [hU]; exact hW, hK.at hS hU hWm⟩⟩ rfl (by rw [List.length_map]; exact hnp) hl.1 (by simp) (by rw [cat_map]; exact lv_room hst) hdg hf) hS (fun v h' H1 locs1 hp hW1 hS1 => ?_)
  rw [cv_toList]
  exact kk v h' hp H1 locs1 ls hW1 hS1 (Wd.szk hW hW1 rfl hz) hl
/-- a static method of a nest mate -/
theorem aw_callSN (hX : Cx X own bytes ret fr lo mc ms n1 post) (own2 host : String) (ho : own2 = own) (hM : AM X.l y b' nL' ret' fr' lo' mc' ms' X.E n h As post') (hy : MF y b' nL' ret' np) (hs : Cond.static y ∈ tbG) (hlink : Cond.methodLinkNest own2 ix y host ∈ lw_tbl)
    (hnp : As.length = np) (hR : fr' + 1 ≤ fr ∧ 8 + (nL' + 11) + lo' ≤ lo) (hst : (st.map fun v => v.category).sum ≤ 8) (hdg : decode bytes pc = .ok (.invokestatic ix, 3)) (hf : k + mc' ≤ mc ∧ sl + ms' ≤ ms) (hst0 : As.reverse ++ st = st0)
    (kk : ∀ v h', post' v h' → AW X (n + mc') h' (k + mc') (sl + ms') (pc + 3) L (v.toList ++ st)) : AW X n h k sl pc L st0 := by
  obtain ⟨p, l, e, R, s, m, args, below, meth, c, Q, E, nL⟩ := X
  obtain ⟨hx, hb, hml, hown, hts, hK, hlk, hr, rfl, hQ⟩ := hX
  subst ho
  subst hst0
  intro H locs ls hW hS hz hl
  refine W.ofRun (va_runSN (As := As.map (cv E)) (rest := st.map (cv E)) ⟨hx, hb, hml, hown, hts⟩ hM ⟨va_cnB np hts (tb_in hy.1) rfl rfl rfl (hK.nest hlink rfl) (hts _ hy.2.1) hy.2.2.1 hR, hts _ hs, trivial⟩
    ⟨blindA, fun U hU hWm => ⟨rfl, by rw [hU]; exact hW, hK.at hS hU hWm⟩⟩ rfl (by rw [List.length_map]; exact hnp) hl.1 (by simp) (by rw [cat_map]; exact lv_room hst) hdg hf) hS (fun v h' H1 locs1 hp hW1 hS1 => ?_)
  rw [cv_toList]
  exact kk v h' hp H1 locs1 ls hW1 hS1 (Wd.szk hW hW1 rfl hz) hl
/-- a constructor -/
theorem aw_callI (hX : Cx X own bytes ret fr lo mc ms n1 post) (own2 : String) (ho : own2 = own) (hM : AM X.l y b' nL' none fr' lo' mc' ms' X.E n h (.ref a :: As) post') (hy : MF y b' nL' none np) (hi : Cond.instanceMethod y ∈ tbG) (hy1 : y.name = "<init>") (hlink : Cond.methodLink own2 ix y ∈ tbG)
    (hnp : As.length = np) (hR : fr' + 1 ≤ fr ∧ 8 + (nL' + 11) + lo' ≤ lo) (hst : (st.map fun v => v.category).sum ≤ 8) (hdg : decode bytes pc = .ok (.invokespecial ix, 3)) (hf : k + mc' ≤ mc ∧ sl + ms' ≤ ms) (hst0 : As.reverse ++ .ref a :: st = st0)
    (kk : ∀ v h', post' v h' → AW X (n + mc') h' (k + mc') (sl + ms') (pc + 3) L (v.toList ++ st)) : AW X n h k sl pc L st0 := by
  obtain ⟨p, l, e, R, s, m, args, below, meth, c, Q, E, nL⟩ := X
  obtain ⟨hx, hb, hml, hown, hts, hK, hlk, hr, rfl, hQ⟩ := hX
  subst ho
  subst hst0
  intro H locs ls hW hS hz hl
  refine W.ofRun (va_runI (As := As.map (cv E)) (rest := st.map (cv E)) (b := ad E a) ⟨hx, hb, hml, hown, hts⟩ hM ⟨callB_of np hts (tb_in hy.1) rfl rfl rfl (hts _ hy.2.1) (hts _ hlink) hy.2.2.1 hR, hy1, hts _ hi⟩
    ⟨blindA, fun U hU hWm => ⟨rfl, by rw [hU]; exact hW, hK.at hS hU hWm⟩⟩ rfl (by rw [List.length_map]; exact hnp) hl.1 (by simp [cv_ref]) (by rw [cat_map]; exact lv_room hst) hdg hf) hS (fun v h' H1 locs1 hp hW1 hS1 => ?_)
  rw [cv_toList]
  exact kk v h' hp H1 locs1 ls hW1 hS1 (Wd.szk hW hW1 rfl hz) hl
/-- a constructor of a nest mate -/
theorem aw_callIN (hX : Cx X own bytes ret fr lo mc ms n1 post) (own2 host : String) (ho : own2 = own) (hM : AM X.l y b' nL' none fr' lo' mc' ms' X.E n h (.ref a :: As) post') (hy : MF y b' nL' none np) (hi : Cond.instanceMethod y ∈ tbG) (hy1 : y.name = "<init>") (hlink : Cond.methodLinkNest own2 ix y host ∈ lw_tbl)
    (hnp : As.length = np) (hR : fr' + 1 ≤ fr ∧ 8 + (nL' + 11) + lo' ≤ lo) (hst : (st.map fun v => v.category).sum ≤ 8) (hdg : decode bytes pc = .ok (.invokespecial ix, 3)) (hf : k + mc' ≤ mc ∧ sl + ms' ≤ ms) (hst0 : As.reverse ++ .ref a :: st = st0)
    (kk : ∀ v h', post' v h' → AW X (n + mc') h' (k + mc') (sl + ms') (pc + 3) L (v.toList ++ st)) : AW X n h k sl pc L st0 := by
  obtain ⟨p, l, e, R, s, m, args, below, meth, c, Q, E, nL⟩ := X
  obtain ⟨hx, hb, hml, hown, hts, hK, hlk, hr, rfl, hQ⟩ := hX
  subst ho
  subst hst0
  intro H locs ls hW hS hz hl
  refine W.ofRun (va_runIN (As := As.map (cv E)) (rest := st.map (cv E)) (b := ad E a) ⟨hx, hb, hml, hown, hts⟩ hM ⟨va_cnB np hts (tb_in hy.1) rfl rfl rfl (hK.nest hlink rfl) (hts _ hy.2.1) hy.2.2.1 hR, hy1, hts _ hi⟩
    ⟨blindA, fun U hU hWm => ⟨rfl, by rw [hU]; exact hW, hK.at hS hU hWm⟩⟩ rfl (by rw [List.length_map]; exact hnp) hl.1 (by simp [cv_ref]) (by rw [cat_map]; exact lv_room hst) hdg hf) hS (fun v h' H1 locs1 hp hW1 hS1 => ?_)
  rw [cv_toList]
  exact kk v h' hp H1 locs1 ls hW1 hS1 (Wd.szk hW hW1 rfl hz) hl
/-- Object.<init> -/
theorem aw_obj (hX : Cx X own bytes ret fr lo mc ms n1 post) (own2 : String) (ho : own2 = own) (hlink : Cond.methodLink own2 ix objectInit ∈ tbG) (hi : Cond.instanceMethod objectInit ∈ tbG) (hc : Cond.code objectInit ⟨#[0xb1]⟩ 1 none ∈ tbG) (hR : 1 ≤ fr ∧ 20 ≤ lo) (hst : (st.map fun v => v.category).sum ≤ 8) (hdg : decode bytes pc = .ok (.invokespecial ix, 3))
    (kk : AW X n h k sl (pc + 3) L st) : AW X n h k sl pc L (.ref a :: st) := by
  obtain ⟨p, l, e, R, s, m, args, below, meth, c, Q, E, nL⟩ := X
  obtain ⟨hx, hb, hml, hown, hts, hK, hlk, hr, rfl, hQ⟩ := hX
  subst ho
  intro H locs ls hW hS hz hl
  have hst' := lv_room (m := m) (pc := pc) (ls := ls) (rest := (Value.ref a :: st).map (cv E)) hst
  rw [← cat_map E st] at hst'
  exact W.objInit hx hb hown (hts _ hlink) (hts _ hi) (hts _ hc) rfl (hl.1.trans hml.symm) rfl hdg hR.1 (by have := hR.2; show _ ≤ lo; omega) (kk H locs ls hW hS hz hl)
end ACALL
end
