section
-- ===== PART A: goes FIRST, ahead of the names: the tables' words, and 'selects' of the private methods out of them =====
/-- a private method of a class that the tables say can be made, by its rows of tables_1 -/
def lw_okq (q : MethodName × Nat) : Prop := (q.1.cls ≠ "java/lang/invoke/MethodHandle" ∧ q.1.cls ≠ "java/lang/invoke/VarHandle") ∧ Cond.instantiable q.1.cls q.2 ∈ tables_1 ∧ Cond.privateMethod q.1 ∈ tables_1 ∧ Cond.instanceMethod q.1 ∈ tables_1
theorem lw_p0 : lw_okq (⟨"FlipBoard$Reader", "takes", "(I)Z"⟩, 5) := ⟨⟨by decide +kernel, by decide +kernel⟩, List.mem_of_getElem? (i := 194) (by decide +kernel), List.mem_of_getElem? (i := 404) (by decide +kernel), List.mem_of_getElem? (i := 405) (by decide +kernel)⟩
theorem lw_p1 : lw_okq (⟨"FlipBoard$Reader", "takesStart", "(I)Z"⟩, 5) := ⟨⟨by decide +kernel, by decide +kernel⟩, List.mem_of_getElem? (i := 194) (by decide +kernel), List.mem_of_getElem? (i := 408) (by decide +kernel), List.mem_of_getElem? (i := 409) (by decide +kernel)⟩
theorem lw_p2 : lw_okq (⟨"FlipBoard$Reader", "takesEqualsSign", "(I)Z"⟩, 5) := ⟨⟨by decide +kernel, by decide +kernel⟩, List.mem_of_getElem? (i := 194) (by decide +kernel), List.mem_of_getElem? (i := 420) (by decide +kernel), List.mem_of_getElem? (i := 421) (by decide +kernel)⟩
theorem lw_p3 : lw_okq (⟨"FlipBoard$Reader", "takesFirstDigit", "(I)Z"⟩, 5) := ⟨⟨by decide +kernel, by decide +kernel⟩, List.mem_of_getElem? (i := 194) (by decide +kernel), List.mem_of_getElem? (i := 424) (by decide +kernel), List.mem_of_getElem? (i := 425) (by decide +kernel)⟩
theorem lw_p4 : lw_okq (⟨"FlipBoard$Reader", "endItem", "()V"⟩, 5) := ⟨⟨by decide +kernel, by decide +kernel⟩, List.mem_of_getElem? (i := 194) (by decide +kernel), List.mem_of_getElem? (i := 429) (by decide +kernel), List.mem_of_getElem? (i := 430) (by decide +kernel)⟩
theorem lw_p5 : lw_okq (⟨"FlipBoard$Reader", "takesSecondDigit", "(I)Z"⟩, 5) := ⟨⟨by decide +kernel, by decide +kernel⟩, List.mem_of_getElem? (i := 194) (by decide +kernel), List.mem_of_getElem? (i := 436) (by decide +kernel), List.mem_of_getElem? (i := 437) (by decide +kernel)⟩
theorem lw_p6 : lw_okq (⟨"FlipBoard$Reader", "takesCharacter", "(I)Z"⟩, 5) := ⟨⟨by decide +kernel, by decide +kernel⟩, List.mem_of_getElem? (i := 194) (by decide +kernel), List.mem_of_getElem? (i := 441) (by decide +kernel), List.mem_of_getElem? (i := 442) (by decide +kernel)⟩
theorem lw_p7 : lw_okq (⟨"FlipBoard", "canShow", "(II)Z"⟩, 9) := ⟨⟨by decide +kernel, by decide +kernel⟩, List.mem_of_getElem? (i := 17) (by decide +kernel), List.mem_of_getElem? (i := 452) (by decide +kernel), List.mem_of_getElem? (i := 453) (by decide +kernel)⟩
theorem lw_p8 : lw_okq (⟨"FlipBoard$Flipper", "arrange", "(LFlipBoard$Dots;I)V"⟩, 1) := ⟨⟨by decide +kernel, by decide +kernel⟩, List.mem_of_getElem? (i := 184) (by decide +kernel), List.mem_of_getElem? (i := 560) (by decide +kernel), List.mem_of_getElem? (i := 561) (by decide +kernel)⟩
theorem lw_p9 : lw_okq (⟨"FlipBoard$Flipper", "arrangeByDueDots", "(LFlipBoard$Dots;)V"⟩, 1) := ⟨⟨by decide +kernel, by decide +kernel⟩, List.mem_of_getElem? (i := 184) (by decide +kernel), List.mem_of_getElem? (i := 564) (by decide +kernel), List.mem_of_getElem? (i := 565) (by decide +kernel)⟩
theorem lw_p10 : lw_okq (⟨"FlipBoard$Flipper", "flipColumn", "(LFlipBoard$State;II)I"⟩, 1) := ⟨⟨by decide +kernel, by decide +kernel⟩, List.mem_of_getElem? (i := 184) (by decide +kernel), List.mem_of_getElem? (i := 573) (by decide +kernel), List.mem_of_getElem? (i := 574) (by decide +kernel)⟩
theorem lw_p11 : lw_okq (⟨"FlipBoard", "isSetToOrder", "(I)Z"⟩, 9) := ⟨⟨by decide +kernel, by decide +kernel⟩, List.mem_of_getElem? (i := 17) (by decide +kernel), List.mem_of_getElem? (i := 677) (by decide +kernel), List.mem_of_getElem? (i := 678) (by decide +kernel)⟩
theorem lw_p12 : lw_okq (⟨"FlipBoard$Orders", "gather", "(LFlipBoard$State;ILFlipBoard$Painter;)V"⟩, 5) := ⟨⟨by decide +kernel, by decide +kernel⟩, List.mem_of_getElem? (i := 220) (by decide +kernel), List.mem_of_getElem? (i := 686) (by decide +kernel), List.mem_of_getElem? (i := 687) (by decide +kernel)⟩
theorem lw_p13 : lw_okq (⟨"FlipBoard$Orders", "measure", "(LFlipBoard$Dots;)V"⟩, 5) := ⟨⟨by decide +kernel, by decide +kernel⟩, List.mem_of_getElem? (i := 220) (by decide +kernel), List.mem_of_getElem? (i := 692) (by decide +kernel), List.mem_of_getElem? (i := 693) (by decide +kernel)⟩
theorem lw_p14 : lw_okq (⟨"FlipBoard$Orders", "wholeSet", "()I"⟩, 5) := ⟨⟨by decide +kernel, by decide +kernel⟩, List.mem_of_getElem? (i := 220) (by decide +kernel), List.mem_of_getElem? (i := 697) (by decide +kernel), List.mem_of_getElem? (i := 698) (by decide +kernel)⟩
theorem lw_p15 : lw_okq (⟨"FlipBoard$Orders", "nextBehind", "(II)I"⟩, 5) := ⟨⟨by decide +kernel, by decide +kernel⟩, List.mem_of_getElem? (i := 220) (by decide +kernel), List.mem_of_getElem? (i := 701) (by decide +kernel), List.mem_of_getElem? (i := 702) (by decide +kernel)⟩
def lw_privs_1 : List (MethodName × Nat) := [(⟨"FlipBoard$Reader", "takes", "(I)Z"⟩, 5), (⟨"FlipBoard$Reader", "takesStart", "(I)Z"⟩, 5), (⟨"FlipBoard$Reader", "takesEqualsSign", "(I)Z"⟩, 5), (⟨"FlipBoard$Reader", "takesFirstDigit", "(I)Z"⟩, 5), (⟨"FlipBoard$Reader", "endItem", "()V"⟩, 5), (⟨"FlipBoard$Reader", "takesSecondDigit", "(I)Z"⟩, 5), (⟨"FlipBoard$Reader", "takesCharacter", "(I)Z"⟩, 5), (⟨"FlipBoard", "canShow", "(II)Z"⟩, 9), (⟨"FlipBoard$Flipper", "arrange", "(LFlipBoard$Dots;I)V"⟩, 1), (⟨"FlipBoard$Flipper", "arrangeByDueDots", "(LFlipBoard$Dots;)V"⟩, 1), (⟨"FlipBoard$Flipper", "flipColumn", "(LFlipBoard$State;II)I"⟩, 1), (⟨"FlipBoard", "isSetToOrder", "(I)Z"⟩, 9), (⟨"FlipBoard$Orders", "gather", "(LFlipBoard$State;ILFlipBoard$Painter;)V"⟩, 5), (⟨"FlipBoard$Orders", "measure", "(LFlipBoard$Dots;)V"⟩, 5), (⟨"FlipBoard$Orders", "wholeSet", "()I"⟩, 5), (⟨"FlipBoard$Orders", "nextBehind", "(II)I"⟩, 5)]
theorem lw_r1 : ∀ q ∈ lw_privs_1, lw_okq q := List.forall_mem_cons.mpr ⟨lw_p0, List.forall_mem_cons.mpr ⟨lw_p1, List.forall_mem_cons.mpr ⟨lw_p2, List.forall_mem_cons.mpr ⟨lw_p3, List.forall_mem_cons.mpr ⟨lw_p4, List.forall_mem_cons.mpr ⟨lw_p5, List.forall_mem_cons.mpr ⟨lw_p6, List.forall_mem_cons.mpr ⟨lw_p7, List.forall_mem_cons.mpr ⟨lw_p8, List.forall_mem_cons.mpr ⟨lw_p9, List.forall_mem_cons.mpr ⟨lw_p10, List.forall_mem_cons.mpr ⟨lw_p11, List.forall_mem_cons.mpr ⟨lw_p12, List.forall_mem_cons.mpr ⟨lw_p13, List.forall_mem_cons.mpr ⟨lw_p14, List.forall_mem_cons.mpr ⟨lw_p15, fun _ h => absurd h List.not_mem_nil⟩⟩⟩⟩⟩⟩⟩⟩⟩⟩⟩⟩⟩⟩⟩⟩
theorem lw_p16 : lw_okq (⟨"FlipBoard$Orders", "flipsBy", "(III)I"⟩, 5) := ⟨⟨by decide +kernel, by decide +kernel⟩, List.mem_of_getElem? (i := 220) (by decide +kernel), List.mem_of_getElem? (i := 709) (by decide +kernel), List.mem_of_getElem? (i := 710) (by decide +kernel)⟩
theorem lw_p17 : lw_okq (⟨"FlipBoardModel", "hold", "()V"⟩, 16) := ⟨⟨by decide +kernel, by decide +kernel⟩, List.mem_of_getElem? (i := 729) (by decide +kernel), List.mem_of_getElem? (i := 791) (by decide +kernel), List.mem_of_getElem? (i := 792) (by decide +kernel)⟩
theorem lw_p18 : lw_okq (⟨"FlipBoardModel", "ends", "(I)I"⟩, 16) := ⟨⟨by decide +kernel, by decide +kernel⟩, List.mem_of_getElem? (i := 729) (by decide +kernel), List.mem_of_getElem? (i := 798) (by decide +kernel), List.mem_of_getElem? (i := 799) (by decide +kernel)⟩
theorem lw_p19 : lw_okq (⟨"FlipBoardModel", "isMessage", "(I)Z"⟩, 16) := ⟨⟨by decide +kernel, by decide +kernel⟩, List.mem_of_getElem? (i := 729) (by decide +kernel), List.mem_of_getElem? (i := 821) (by decide +kernel), List.mem_of_getElem? (i := 822) (by decide +kernel)⟩
theorem lw_p20 : lw_okq (⟨"FlipBoardModel", "skips", "()V"⟩, 16) := ⟨⟨by decide +kernel, by decide +kernel⟩, List.mem_of_getElem? (i := 729) (by decide +kernel), List.mem_of_getElem? (i := 837) (by decide +kernel), List.mem_of_getElem? (i := 838) (by decide +kernel)⟩
theorem lw_p21 : lw_okq (⟨"FlipBoardModel", "here", "()I"⟩, 16) := ⟨⟨by decide +kernel, by decide +kernel⟩, List.mem_of_getElem? (i := 729) (by decide +kernel), List.mem_of_getElem? (i := 841) (by decide +kernel), List.mem_of_getElem? (i := 842) (by decide +kernel)⟩
theorem lw_p22 : lw_okq (⟨"FlipBoardModel", "isLetter", "()Z"⟩, 16) := ⟨⟨by decide +kernel, by decide +kernel⟩, List.mem_of_getElem? (i := 729) (by decide +kernel), List.mem_of_getElem? (i := 845) (by decide +kernel), List.mem_of_getElem? (i := 846) (by decide +kernel)⟩
theorem lw_p23 : lw_okq (⟨"FlipBoardModel", "isText", "()Z"⟩, 16) := ⟨⟨by decide +kernel, by decide +kernel⟩, List.mem_of_getElem? (i := 729) (by decide +kernel), List.mem_of_getElem? (i := 852) (by decide +kernel), List.mem_of_getElem? (i := 853) (by decide +kernel)⟩
theorem lw_p24 : lw_okq (⟨"FlipBoardModel", "isShow", "(II)Z"⟩, 16) := ⟨⟨by decide +kernel, by decide +kernel⟩, List.mem_of_getElem? (i := 729) (by decide +kernel), List.mem_of_getElem? (i := 860) (by decide +kernel), List.mem_of_getElem? (i := 861) (by decide +kernel)⟩
theorem lw_p25 : lw_okq (⟨"FlipBoardModel", "aims", "(II)V"⟩, 16) := ⟨⟨by decide +kernel, by decide +kernel⟩, List.mem_of_getElem? (i := 729) (by decide +kernel), List.mem_of_getElem? (i := 864) (by decide +kernel), List.mem_of_getElem? (i := 865) (by decide +kernel)⟩
theorem lw_p26 : lw_okq (⟨"FlipBoardModel", "shiftFor", "(II)I"⟩, 16) := ⟨⟨by decide +kernel, by decide +kernel⟩, List.mem_of_getElem? (i := 729) (by decide +kernel), List.mem_of_getElem? (i := 868) (by decide +kernel), List.mem_of_getElem? (i := 869) (by decide +kernel)⟩
theorem lw_p27 : lw_okq (⟨"FlipBoardModel", "bestOf", "(I)I"⟩, 16) := ⟨⟨by decide +kernel, by decide +kernel⟩, List.mem_of_getElem? (i := 729) (by decide +kernel), List.mem_of_getElem? (i := 872) (by decide +kernel), List.mem_of_getElem? (i := 873) (by decide +kernel)⟩
theorem lw_p28 : lw_okq (⟨"FlipBoardModel", "lays", "(II[I)V"⟩, 16) := ⟨⟨by decide +kernel, by decide +kernel⟩, List.mem_of_getElem? (i := 729) (by decide +kernel), List.mem_of_getElem? (i := 876) (by decide +kernel), List.mem_of_getElem? (i := 877) (by decide +kernel)⟩
theorem lw_p29 : lw_okq (⟨"FlipBoardModel", "stripOf", "(I)I"⟩, 16) := ⟨⟨by decide +kernel, by decide +kernel⟩, List.mem_of_getElem? (i := 729) (by decide +kernel), List.mem_of_getElem? (i := 880) (by decide +kernel), List.mem_of_getElem? (i := 881) (by decide +kernel)⟩
theorem lw_p30 : lw_okq (⟨"FlipBoardModel", "lengthOf", "(I)I"⟩, 16) := ⟨⟨by decide +kernel, by decide +kernel⟩, List.mem_of_getElem? (i := 729) (by decide +kernel), List.mem_of_getElem? (i := 884) (by decide +kernel), List.mem_of_getElem? (i := 885) (by decide +kernel)⟩
theorem lw_p31 : lw_okq (⟨"FlipBoardModel", "characterOf", "(II)I"⟩, 16) := ⟨⟨by decide +kernel, by decide +kernel⟩, List.mem_of_getElem? (i := 729) (by decide +kernel), List.mem_of_getElem? (i := 888) (by decide +kernel), List.mem_of_getElem? (i := 889) (by decide +kernel)⟩
def lw_privs_2 : List (MethodName × Nat) := [(⟨"FlipBoard$Orders", "flipsBy", "(III)I"⟩, 5), (⟨"FlipBoardModel", "hold", "()V"⟩, 16), (⟨"FlipBoardModel", "ends", "(I)I"⟩, 16), (⟨"FlipBoardModel", "isMessage", "(I)Z"⟩, 16), (⟨"FlipBoardModel", "skips", "()V"⟩, 16), (⟨"FlipBoardModel", "here", "()I"⟩, 16), (⟨"FlipBoardModel", "isLetter", "()Z"⟩, 16), (⟨"FlipBoardModel", "isText", "()Z"⟩, 16), (⟨"FlipBoardModel", "isShow", "(II)Z"⟩, 16), (⟨"FlipBoardModel", "aims", "(II)V"⟩, 16), (⟨"FlipBoardModel", "shiftFor", "(II)I"⟩, 16), (⟨"FlipBoardModel", "bestOf", "(I)I"⟩, 16), (⟨"FlipBoardModel", "lays", "(II[I)V"⟩, 16), (⟨"FlipBoardModel", "stripOf", "(I)I"⟩, 16), (⟨"FlipBoardModel", "lengthOf", "(I)I"⟩, 16), (⟨"FlipBoardModel", "characterOf", "(II)I"⟩, 16)]
theorem lw_r2 : ∀ q ∈ lw_privs_2, lw_okq q := List.forall_mem_cons.mpr ⟨lw_p16, List.forall_mem_cons.mpr ⟨lw_p17, List.forall_mem_cons.mpr ⟨lw_p18, List.forall_mem_cons.mpr ⟨lw_p19, List.forall_mem_cons.mpr ⟨lw_p20, List.forall_mem_cons.mpr ⟨lw_p21, List.forall_mem_cons.mpr ⟨lw_p22, List.forall_mem_cons.mpr ⟨lw_p23, List.forall_mem_cons.mpr ⟨lw_p24, List.forall_mem_cons.mpr ⟨lw_p25, List.forall_mem_cons.mpr ⟨lw_p26, List.forall_mem_cons.mpr ⟨lw_p27, List.forall_mem_cons.mpr ⟨lw_p28, List.forall_mem_cons.mpr ⟨lw_p29, List.forall_mem_cons.mpr ⟨lw_p30, List.forall_mem_cons.mpr ⟨lw_p31, fun _ h => absurd h List.not_mem_nil⟩⟩⟩⟩⟩⟩⟩⟩⟩⟩⟩⟩⟩⟩⟩⟩
theorem lw_p32 : lw_okq (⟨"FlipBoardModel", "wideOf", "(I)I"⟩, 16) := ⟨⟨by decide +kernel, by decide +kernel⟩, List.mem_of_getElem? (i := 729) (by decide +kernel), List.mem_of_getElem? (i := 892) (by decide +kernel), List.mem_of_getElem? (i := 893) (by decide +kernel)⟩
theorem lw_p33 : lw_okq (⟨"FlipBoardModel", "isColumn", "(I)Z"⟩, 16) := ⟨⟨by decide +kernel, by decide +kernel⟩, List.mem_of_getElem? (i := 729) (by decide +kernel), List.mem_of_getElem? (i := 896) (by decide +kernel), List.mem_of_getElem? (i := 897) (by decide +kernel)⟩
theorem lw_p34 : lw_okq (⟨"FlipBoardModel", "differs", "([II[IZ)I"⟩, 16) := ⟨⟨by decide +kernel, by decide +kernel⟩, List.mem_of_getElem? (i := 729) (by decide +kernel), List.mem_of_getElem? (i := 900) (by decide +kernel), List.mem_of_getElem? (i := 901) (by decide +kernel)⟩
theorem lw_p35 : lw_okq (⟨"FlipBoardModel", "dueMany", "()I"⟩, 16) := ⟨⟨by decide +kernel, by decide +kernel⟩, List.mem_of_getElem? (i := 729) (by decide +kernel), List.mem_of_getElem? (i := 907) (by decide +kernel), List.mem_of_getElem? (i := 908) (by decide +kernel)⟩
theorem lw_p36 : lw_okq (⟨"FlipBoardModel", "dueOf", "(I)I"⟩, 16) := ⟨⟨by decide +kernel, by decide +kernel⟩, List.mem_of_getElem? (i := 729) (by decide +kernel), List.mem_of_getElem? (i := 911) (by decide +kernel), List.mem_of_getElem? (i := 912) (by decide +kernel)⟩
theorem lw_p37 : lw_okq (⟨"FlipBoardModel", "isDot", "(II)Z"⟩, 16) := ⟨⟨by decide +kernel, by decide +kernel⟩, List.mem_of_getElem? (i := 729) (by decide +kernel), List.mem_of_getElem? (i := 923) (by decide +kernel), List.mem_of_getElem? (i := 924) (by decide +kernel)⟩
theorem lw_p38 : lw_okq (⟨"FlipBoardModel", "second", "()V"⟩, 16) := ⟨⟨by decide +kernel, by decide +kernel⟩, List.mem_of_getElem? (i := 729) (by decide +kernel), List.mem_of_getElem? (i := 935) (by decide +kernel), List.mem_of_getElem? (i := 936) (by decide +kernel)⟩
theorem lw_p39 : lw_okq (⟨"FlipBoardModel", "nextColumn", "(I)I"⟩, 16) := ⟨⟨by decide +kernel, by decide +kernel⟩, List.mem_of_getElem? (i := 729) (by decide +kernel), List.mem_of_getElem? (i := 939) (by decide +kernel), List.mem_of_getElem? (i := 940) (by decide +kernel)⟩
theorem lw_p40 : lw_okq (⟨"FlipBoardModel", "flipsAt", "(II)V"⟩, 16) := ⟨⟨by decide +kernel, by decide +kernel⟩, List.mem_of_getElem? (i := 729) (by decide +kernel), List.mem_of_getElem? (i := 943) (by decide +kernel), List.mem_of_getElem? (i := 944) (by decide +kernel)⟩
theorem lw_p41 : lw_okq (⟨"FlipBoardModel", "bitsOf", "(I)I"⟩, 16) := ⟨⟨by decide +kernel, by decide +kernel⟩, List.mem_of_getElem? (i := 729) (by decide +kernel), List.mem_of_getElem? (i := 951) (by decide +kernel), List.mem_of_getElem? (i := 952) (by decide +kernel)⟩
theorem lw_p42 : lw_okq (⟨"FlipBoardModel", "offMany", "()I"⟩, 16) := ⟨⟨by decide +kernel, by decide +kernel⟩, List.mem_of_getElem? (i := 729) (by decide +kernel), List.mem_of_getElem? (i := 955) (by decide +kernel), List.mem_of_getElem? (i := 956) (by decide +kernel)⟩
theorem lw_p43 : lw_okq (⟨"FlipBoardModel", "betweenOf", "(II)I"⟩, 16) := ⟨⟨by decide +kernel, by decide +kernel⟩, List.mem_of_getElem? (i := 729) (by decide +kernel), List.mem_of_getElem? (i := 1003) (by decide +kernel), List.mem_of_getElem? (i := 1004) (by decide +kernel)⟩
theorem lw_p44 : lw_okq (⟨"FlipBoardModel", "laysFlips", "()V"⟩, 16) := ⟨⟨by decide +kernel, by decide +kernel⟩, List.mem_of_getElem? (i := 729) (by decide +kernel), List.mem_of_getElem? (i := 1011) (by decide +kernel), List.mem_of_getElem? (i := 1012) (by decide +kernel)⟩
theorem lw_p45 : lw_okq (⟨"FlipBoardModel", "flipsFor", "()I"⟩, 16) := ⟨⟨by decide +kernel, by decide +kernel⟩, List.mem_of_getElem? (i := 729) (by decide +kernel), List.mem_of_getElem? (i := 1015) (by decide +kernel), List.mem_of_getElem? (i := 1016) (by decide +kernel)⟩
theorem lw_p46 : lw_okq (⟨"FlipBoardModel", "goesOn", "()Z"⟩, 16) := ⟨⟨by decide +kernel, by decide +kernel⟩, List.mem_of_getElem? (i := 729) (by decide +kernel), List.mem_of_getElem? (i := 1019) (by decide +kernel), List.mem_of_getElem? (i := 1020) (by decide +kernel)⟩
theorem lw_p47 : lw_okq (⟨"FlipBoardModel", "swaps", "(II)V"⟩, 16) := ⟨⟨by decide +kernel, by decide +kernel⟩, List.mem_of_getElem? (i := 729) (by decide +kernel), List.mem_of_getElem? (i := 1023) (by decide +kernel), List.mem_of_getElem? (i := 1024) (by decide +kernel)⟩
def lw_privs_3 : List (MethodName × Nat) := [(⟨"FlipBoardModel", "wideOf", "(I)I"⟩, 16), (⟨"FlipBoardModel", "isColumn", "(I)Z"⟩, 16), (⟨"FlipBoardModel", "differs", "([II[IZ)I"⟩, 16), (⟨"FlipBoardModel", "dueMany", "()I"⟩, 16), (⟨"FlipBoardModel", "dueOf", "(I)I"⟩, 16), (⟨"FlipBoardModel", "isDot", "(II)Z"⟩, 16), (⟨"FlipBoardModel", "second", "()V"⟩, 16), (⟨"FlipBoardModel", "nextColumn", "(I)I"⟩, 16), (⟨"FlipBoardModel", "flipsAt", "(II)V"⟩, 16), (⟨"FlipBoardModel", "bitsOf", "(I)I"⟩, 16), (⟨"FlipBoardModel", "offMany", "()I"⟩, 16), (⟨"FlipBoardModel", "betweenOf", "(II)I"⟩, 16), (⟨"FlipBoardModel", "laysFlips", "()V"⟩, 16), (⟨"FlipBoardModel", "flipsFor", "()I"⟩, 16), (⟨"FlipBoardModel", "goesOn", "()Z"⟩, 16), (⟨"FlipBoardModel", "swaps", "(II)V"⟩, 16)]
theorem lw_r3 : ∀ q ∈ lw_privs_3, lw_okq q := List.forall_mem_cons.mpr ⟨lw_p32, List.forall_mem_cons.mpr ⟨lw_p33, List.forall_mem_cons.mpr ⟨lw_p34, List.forall_mem_cons.mpr ⟨lw_p35, List.forall_mem_cons.mpr ⟨lw_p36, List.forall_mem_cons.mpr ⟨lw_p37, List.forall_mem_cons.mpr ⟨lw_p38, List.forall_mem_cons.mpr ⟨lw_p39, List.forall_mem_cons.mpr ⟨lw_p40, List.forall_mem_cons.mpr ⟨lw_p41, List.forall_mem_cons.mpr ⟨lw_p42, List.forall_mem_cons.mpr ⟨lw_p43, List.forall_mem_cons.mpr ⟨lw_p44, List.forall_mem_cons.mpr ⟨lw_p45, List.forall_mem_cons.mpr ⟨lw_p46, List.forall_mem_cons.mpr ⟨lw_p47, fun _ h => absurd h List.not_mem_nil⟩⟩⟩⟩⟩⟩⟩⟩⟩⟩⟩⟩⟩⟩⟩⟩
def lw_privs : List (MethodName × Nat) := lw_privs_1 ++ (lw_privs_2 ++ (lw_privs_3))
def lw_tbl : List Cond := k2_sels lw_privs ++ tables_1
theorem lw_privs_ok : ∀ q ∈ lw_privs, lw_okq q := by
  show ∀ q ∈ lw_privs_1 ++ (lw_privs_2 ++ (lw_privs_3)), lw_okq q
  exact List.forall_mem_append.mpr ⟨lw_r1, List.forall_mem_append.mpr ⟨lw_r2, lw_r3⟩⟩

def RX0 : String := "FlipBoard$Dots"
def TX0 : u_T := fun k => match k with
  | 0 => ("FlipBoard$Dots", "width", "I", false)
  | 1 => ("FlipBoard$Dots", "shown", "[I", true)
  | 2 => ("FlipBoard$Dots", "aim", "[I", true)
  | 3 => ("FlipBoard$Dots", "stuck", "[I", true)
  | 4 => ("FlipBoard$Dots", "known", "[I", true)
  | _ => ("FlipBoard$Dots", "flips", "[I", true)
def tyX0 : Nat → FieldType := fun k => match k with
  | 0 => .int
  | 1 => .array .int
  | 2 => .array .int
  | 3 => .array .int
  | 4 => .array .int
  | _ => .array .int
theorem nmX0 : ∀ a, a < 6 → ∀ b, b < 6 → a ≠ b → (TX0 a).2.1 ≠ (TX0 b).2.1 := by decide +kernel
theorem tyX0_ok : ∀ k, k < 6 → parseFieldDescriptor (TX0 k).2.2.1 = some (tyX0 k) := by decide +kernel
abbrev cX0_init : ByteArray := prog_2_method_1_code
def yX0_init : MethodName := ⟨RX0, "<init>", "()V"⟩
abbrev cX0_copyFrom : ByteArray := prog_2_method_2_code
def yX0_copyFrom : MethodName := ⟨RX0, "copyFrom", "(LFlipBoard$Dots;)V"⟩
abbrev cX0_renew : ByteArray := prog_2_method_3_code
def yX0_renew : MethodName := ⟨RX0, "renew", "(I)V"⟩
abbrev cX0_hasColumn : ByteArray := prog_2_method_4_code
def yX0_hasColumn : MethodName := ⟨RX0, "hasColumn", "(I)Z"⟩
abbrev cX0_hasDot : ByteArray := prog_2_method_5_code
def yX0_hasDot : MethodName := ⟨RX0, "hasDot", "(II)Z"⟩
abbrev cX0_aimAt : ByteArray := prog_2_method_6_code
def yX0_aimAt : MethodName := ⟨RX0, "aimAt", "([I)V"⟩
abbrev cX0_aimAtDark : ByteArray := prog_2_method_7_code
def yX0_aimAtDark : MethodName := ⟨RX0, "aimAtDark", "()V"⟩
abbrev cX0_dueBits : ByteArray := prog_2_method_8_code
def yX0_dueBits : MethodName := ⟨RX0, "dueBits", "(I)I"⟩
abbrev cX0_dueDots : ByteArray := prog_2_method_9_code
def yX0_dueDots : MethodName := ⟨RX0, "dueDots", "()I"⟩
abbrev cX0_differing : ByteArray := prog_2_method_10_code
def yX0_differing : MethodName := ⟨RX0, "differing", "([I[I)I"⟩
abbrev cX0_stuckDots : ByteArray := prog_2_method_11_code
def yX0_stuckDots : MethodName := ⟨RX0, "stuckDots", "()I"⟩
abbrev cX0_knownDots : ByteArray := prog_2_method_12_code
def yX0_knownDots : MethodName := ⟨RX0, "knownDots", "()I"⟩
abbrev cX0_dotsIn : ByteArray := prog_2_method_13_code
def yX0_dotsIn : MethodName := ⟨RX0, "dotsIn", "([I)I"⟩
abbrev cX0_otherDots : ByteArray := prog_2_method_14_code
def yX0_otherDots : MethodName := ⟨RX0, "otherDots", "()I"⟩
abbrev cX0_knownAgainst : ByteArray := prog_2_method_15_code
def yX0_knownAgainst : MethodName := ⟨RX0, "knownAgainst", "([I)I"⟩
abbrev cX0_isStuck : ByteArray := prog_2_method_16_code
def yX0_isStuck : MethodName := ⟨RX0, "isStuck", "(II)Z"⟩
abbrev cX0_stick : ByteArray := prog_2_method_17_code
def yX0_stick : MethodName := ⟨RX0, "stick", "(II)V"⟩
abbrev cX0_makeKnown : ByteArray := prog_2_method_18_code
def yX0_makeKnown : MethodName := ⟨RX0, "makeKnown", "(II)V"⟩
abbrev cX0_flip : ByteArray := prog_2_method_19_code
def yX0_flip : MethodName := ⟨RX0, "flip", "(II)V"⟩
abbrev cX0_flipsOf : ByteArray := prog_2_method_20_code
def yX0_flipsOf : MethodName := ⟨RX0, "flipsOf", "(II)I"⟩
abbrev cX0_renewDot : ByteArray := prog_2_method_21_code
def yX0_renewDot : MethodName := ⟨RX0, "renewDot", "(II)V"⟩
def RX1 : String := "FlipBoard$Flipper"
def TX1 : u_T := fun k => match k with
  | _ => ("FlipBoard$Flipper", "sequence", "[I", true)
def tyX1 : Nat → FieldType := fun k => match k with
  | _ => .array .int
theorem nmX1 : ∀ a, a < 1 → ∀ b, b < 1 → a ≠ b → (TX1 a).2.1 ≠ (TX1 b).2.1 := by decide +kernel
theorem tyX1_ok : ∀ k, k < 1 → parseFieldDescriptor (TX1 k).2.2.1 = some (tyX1 k) := by decide +kernel
abbrev cX1_init : ByteArray := prog_3_method_1_code
def yX1_init : MethodName := ⟨RX1, "<init>", "()V"⟩
abbrev cX1_passSecond : ByteArray := prog_3_method_2_code
def yX1_passSecond : MethodName := ⟨RX1, "passSecond", "(LFlipBoard$State;)V"⟩
abbrev cX1_flipColumn : ByteArray := prog_3_method_3_code
def yX1_flipColumn : MethodName := ⟨RX1, "flipColumn", "(LFlipBoard$State;II)I"⟩
abbrev cX1_arrange : ByteArray := prog_3_method_4_code
def yX1_arrange : MethodName := ⟨RX1, "arrange", "(LFlipBoard$Dots;I)V"⟩
abbrev cX1_arrangeByDueDots : ByteArray := prog_3_method_5_code
def yX1_arrangeByDueDots : MethodName := ⟨RX1, "arrangeByDueDots", "(LFlipBoard$Dots;)V"⟩
def RX2 : String := "FlipBoard$History"
def TX2 : u_T := fun k => match k with
  | 0 => ("FlipBoard$History", "states", "[LFlipBoard$State;", true)
  | 1 => ("FlipBoard$History", "first", "I", false)
  | _ => ("FlipBoard$History", "size", "I", false)
def tyX2 : Nat → FieldType := fun k => match k with
  | 0 => .array (.object "FlipBoard$State")
  | 1 => .int
  | _ => .int
theorem nmX2 : ∀ a, a < 3 → ∀ b, b < 3 → a ≠ b → (TX2 a).2.1 ≠ (TX2 b).2.1 := by decide +kernel
theorem tyX2_ok : ∀ k, k < 3 → parseFieldDescriptor (TX2 k).2.2.1 = some (tyX2 k) := by decide +kernel
abbrev cX2_init : ByteArray := prog_4_method_1_code
def yX2_init : MethodName := ⟨RX2, "<init>", "()V"⟩
abbrev cX2_keep : ByteArray := prog_4_method_2_code
def yX2_keep : MethodName := ⟨RX2, "keep", "(LFlipBoard$State;)V"⟩
abbrev cX2_restore : ByteArray := prog_4_method_3_code
def yX2_restore : MethodName := ⟨RX2, "restore", "(LFlipBoard$State;)V"⟩
abbrev cX2_stateAt : ByteArray := prog_4_method_4_code
def yX2_stateAt : MethodName := ⟨RX2, "stateAt", "(I)LFlipBoard$State;"⟩
def RX3 : String := "FlipBoard$Meter"
def TX3 : u_T := fun k => match k with
  | 0 => ("FlipBoard$Meter", "flips", "I", false)
  | 1 => ("FlipBoard$Meter", "tries", "I", false)
  | 2 => ("FlipBoard$Meter", "power", "I", false)
  | 3 => ("FlipBoard$Meter", "seconds", "I", false)
  | _ => ("FlipBoard$Meter", "recent", "[I", true)
def tyX3 : Nat → FieldType := fun k => match k with
  | 0 => .int
  | 1 => .int
  | 2 => .int
  | 3 => .int
  | _ => .array .int
theorem nmX3 : ∀ a, a < 5 → ∀ b, b < 5 → a ≠ b → (TX3 a).2.1 ≠ (TX3 b).2.1 := by decide +kernel
theorem tyX3_ok : ∀ k, k < 5 → parseFieldDescriptor (TX3 k).2.2.1 = some (tyX3 k) := by decide +kernel
abbrev cX3_init : ByteArray := prog_5_method_1_code
def yX3_init : MethodName := ⟨RX3, "<init>", "()V"⟩
abbrev cX3_copyFrom : ByteArray := prog_5_method_2_code
def yX3_copyFrom : MethodName := ⟨RX3, "copyFrom", "(LFlipBoard$Meter;)V"⟩
abbrev cX3_renew : ByteArray := prog_5_method_3_code
def yX3_renew : MethodName := ⟨RX3, "renew", "()V"⟩
abbrev cX3_addSecond : ByteArray := prog_5_method_4_code
def yX3_addSecond : MethodName := ⟨RX3, "addSecond", "(I)V"⟩
abbrev cX3_powerOf : ByteArray := prog_5_method_5_code
def yX3_powerOf : MethodName := ⟨RX3, "powerOf", "(I)I"⟩
def RX4 : String := "FlipBoard$Orders"
def TX4 : u_T := fun k => match k with
  | 0 => ("FlipBoard$Orders", "members", "[I", true)
  | 1 => ("FlipBoard$Orders", "pictures", "[[I", true)
  | 2 => ("FlipBoard$Orders", "steps", "[[I", true)
  | 3 => ("FlipBoard$Orders", "fewest", "[[I", true)
  | _ => ("FlipBoard$Orders", "size", "I", false)
def tyX4 : Nat → FieldType := fun k => match k with
  | 0 => .array .int
  | 1 => .array (.array .int)
  | 2 => .array (.array .int)
  | 3 => .array (.array .int)
  | _ => .int
theorem nmX4 : ∀ a, a < 5 → ∀ b, b < 5 → a ≠ b → (TX4 a).2.1 ≠ (TX4 b).2.1 := by decide +kernel
theorem tyX4_ok : ∀ k, k < 5 → parseFieldDescriptor (TX4 k).2.2.1 = some (tyX4 k) := by decide +kernel
abbrev cX4_init : ByteArray := prog_6_method_1_code
def yX4_init : MethodName := ⟨RX4, "<init>", "()V"⟩
abbrev cX4_find : ByteArray := prog_6_method_2_code
def yX4_find : MethodName := ⟨RX4, "find", "(LFlipBoard$State;ILFlipBoard$Painter;)V"⟩
abbrev cX4_fewestFlips : ByteArray := prog_6_method_3_code
def yX4_fewestFlips : MethodName := ⟨RX4, "fewestFlips", "()I"⟩
abbrev cX4_messageAt : ByteArray := prog_6_method_4_code
def yX4_messageAt : MethodName := ⟨RX4, "messageAt", "(I)I"⟩
abbrev cX4_gather : ByteArray := prog_6_method_5_code
def yX4_gather : MethodName := ⟨RX4, "gather", "(LFlipBoard$State;ILFlipBoard$Painter;)V"⟩
abbrev cX4_measure : ByteArray := prog_6_method_6_code
def yX4_measure : MethodName := ⟨RX4, "measure", "(LFlipBoard$Dots;)V"⟩
abbrev cX4_nextBehind : ByteArray := prog_6_method_7_code
def yX4_nextBehind : MethodName := ⟨RX4, "nextBehind", "(II)I"⟩
abbrev cX4_flipsBy : ByteArray := prog_6_method_8_code
def yX4_flipsBy : MethodName := ⟨RX4, "flipsBy", "(III)I"⟩
abbrev cX4_wholeSet : ByteArray := prog_6_method_9_code
def yX4_wholeSet : MethodName := ⟨RX4, "wholeSet", "()I"⟩
abbrev cX4_without : ByteArray := prog_6_method_10_code
def yX4_without : MethodName := ⟨RX4, "without", "(II)I"⟩
def RX5 : String := "FlipBoard$Painter"
def TX5 : u_T := fun k => match k with
  | 0 => ("FlipBoard$Painter", "picture", "[I", true)
  | _ => ("FlipBoard$Painter", "otherPicture", "[I", true)
def tyX5 : Nat → FieldType := fun k => match k with
  | 0 => .array .int
  | _ => .array .int
theorem nmX5 : ∀ a, a < 2 → ∀ b, b < 2 → a ≠ b → (TX5 a).2.1 ≠ (TX5 b).2.1 := by decide +kernel
theorem tyX5_ok : ∀ k, k < 2 → parseFieldDescriptor (TX5 k).2.2.1 = some (tyX5 k) := by decide +kernel
abbrev cX5_init : ByteArray := prog_7_method_1_code
def yX5_init : MethodName := ⟨RX5, "<init>", "()V"⟩
abbrev cX5_draw : ByteArray := prog_7_method_2_code
def yX5_draw : MethodName := ⟨RX5, "draw", "(LFlipBoard$State;II[I)V"⟩
abbrev cX5_drawAs : ByteArray := prog_7_method_3_code
def yX5_drawAs : MethodName := ⟨RX5, "drawAs", "(LFlipBoard$State;II)V"⟩
abbrev cX5_bestShiftOf : ByteArray := prog_7_method_4_code
def yX5_bestShiftOf : MethodName := ⟨RX5, "bestShiftOf", "(LFlipBoard$State;I)I"⟩
def RX6 : String := "FlipBoard$Reader"
def TX6 : u_T := fun k => match k with
  | 0 => ("FlipBoard$Reader", "draft", "LFlipBoard$Script;", true)
  | 1 => ("FlipBoard$Reader", "items", "I", false)
  | 2 => ("FlipBoard$Reader", "expected", "I", false)
  | 3 => ("FlipBoard$Reader", "letter", "I", false)
  | _ => ("FlipBoard$Reader", "firstDigit", "I", false)
def tyX6 : Nat → FieldType := fun k => match k with
  | 0 => .object "FlipBoard$Script"
  | 1 => .int
  | 2 => .int
  | 3 => .int
  | _ => .int
theorem nmX6 : ∀ a, a < 5 → ∀ b, b < 5 → a ≠ b → (TX6 a).2.1 ≠ (TX6 b).2.1 := by decide +kernel
theorem tyX6_ok : ∀ k, k < 5 → parseFieldDescriptor (TX6 k).2.2.1 = some (tyX6 k) := by decide +kernel
abbrev cX6_init : ByteArray := prog_8_method_1_code
def yX6_init : MethodName := ⟨RX6, "<init>", "()V"⟩
abbrev cX6_errorIn : ByteArray := prog_8_method_2_code
def yX6_errorIn : MethodName := ⟨RX6, "errorIn", "([IILFlipBoard$Script;)I"⟩
abbrev cX6_takes : ByteArray := prog_8_method_3_code
def yX6_takes : MethodName := ⟨RX6, "takes", "(I)Z"⟩
abbrev cX6_takesStart : ByteArray := prog_8_method_4_code
def yX6_takesStart : MethodName := ⟨RX6, "takesStart", "(I)Z"⟩
abbrev cX6_takesEqualsSign : ByteArray := prog_8_method_5_code
def yX6_takesEqualsSign : MethodName := ⟨RX6, "takesEqualsSign", "(I)Z"⟩
abbrev cX6_takesFirstDigit : ByteArray := prog_8_method_6_code
def yX6_takesFirstDigit : MethodName := ⟨RX6, "takesFirstDigit", "(I)Z"⟩
abbrev cX6_takesSecondDigit : ByteArray := prog_8_method_7_code
def yX6_takesSecondDigit : MethodName := ⟨RX6, "takesSecondDigit", "(I)Z"⟩
abbrev cX6_takesCharacter : ByteArray := prog_8_method_8_code
def yX6_takesCharacter : MethodName := ⟨RX6, "takesCharacter", "(I)Z"⟩
abbrev cX6_endItem : ByteArray := prog_8_method_9_code
def yX6_endItem : MethodName := ⟨RX6, "endItem", "()V"⟩
abbrev cX6_isSmallLetter : ByteArray := prog_8_method_10_code
def yX6_isSmallLetter : MethodName := ⟨RX6, "isSmallLetter", "(I)Z"⟩
abbrev cX6_digitOf : ByteArray := prog_8_method_11_code
def yX6_digitOf : MethodName := ⟨RX6, "digitOf", "(I)I"⟩
def RX7 : String := "FlipBoard$Script"
def TX7 : u_T := fun k => match k with
  | 0 => ("FlipBoard$Script", "columns", "[I", true)
  | 1 => ("FlipBoard$Script", "widths", "[I", true)
  | 2 => ("FlipBoard$Script", "characters", "[I", true)
  | 3 => ("FlipBoard$Script", "lengths", "[I", true)
  | _ => ("FlipBoard$Script", "messages", "I", false)
def tyX7 : Nat → FieldType := fun k => match k with
  | 0 => .array .int
  | 1 => .array .int
  | 2 => .array .int
  | 3 => .array .int
  | _ => .int
theorem nmX7 : ∀ a, a < 5 → ∀ b, b < 5 → a ≠ b → (TX7 a).2.1 ≠ (TX7 b).2.1 := by decide +kernel
theorem tyX7_ok : ∀ k, k < 5 → parseFieldDescriptor (TX7 k).2.2.1 = some (tyX7 k) := by decide +kernel
abbrev cX7_init : ByteArray := prog_9_method_1_code
def yX7_init : MethodName := ⟨RX7, "<init>", "()V"⟩
abbrev cX7_copyFrom : ByteArray := prog_9_method_2_code
def yX7_copyFrom : MethodName := ⟨RX7, "copyFrom", "(LFlipBoard$Script;)V"⟩
abbrev cX7_widthOf : ByteArray := prog_9_method_3_code
def yX7_widthOf : MethodName := ⟨RX7, "widthOf", "(I)I"⟩
abbrev cX7_columnOf : ByteArray := prog_9_method_4_code
def yX7_columnOf : MethodName := ⟨RX7, "columnOf", "(II)I"⟩
abbrev cX7_putColumn : ByteArray := prog_9_method_5_code
def yX7_putColumn : MethodName := ⟨RX7, "putColumn", "(III)V"⟩
abbrev cX7_clearLetter : ByteArray := prog_9_method_6_code
def yX7_clearLetter : MethodName := ⟨RX7, "clearLetter", "(I)V"⟩
abbrev cX7_isLetter : ByteArray := prog_9_method_7_code
def yX7_isLetter : MethodName := ⟨RX7, "isLetter", "(I)Z"⟩
abbrev cX7_hasMessage : ByteArray := prog_9_method_8_code
def yX7_hasMessage : MethodName := ⟨RX7, "hasMessage", "(I)Z"⟩
abbrev cX7_lengthOf : ByteArray := prog_9_method_9_code
def yX7_lengthOf : MethodName := ⟨RX7, "lengthOf", "(I)I"⟩
abbrev cX7_characterOf : ByteArray := prog_9_method_10_code
def yX7_characterOf : MethodName := ⟨RX7, "characterOf", "(II)I"⟩
abbrev cX7_startMessage : ByteArray := prog_9_method_11_code
def yX7_startMessage : MethodName := ⟨RX7, "startMessage", "()V"⟩
abbrev cX7_addCharacter : ByteArray := prog_9_method_12_code
def yX7_addCharacter : MethodName := ⟨RX7, "addCharacter", "(I)V"⟩
abbrev cX7_dropMessage : ByteArray := prog_9_method_13_code
def yX7_dropMessage : MethodName := ⟨RX7, "dropMessage", "(I)V"⟩
abbrev cX7_stripColumns : ByteArray := prog_9_method_14_code
def yX7_stripColumns : MethodName := ⟨RX7, "stripColumns", "(I)I"⟩
abbrev cX7_stripBits : ByteArray := prog_9_method_15_code
def yX7_stripBits : MethodName := ⟨RX7, "stripBits", "(II)I"⟩
def RX8 : String := "FlipBoard$State"
def TX8 : u_T := fun k => match k with
  | 0 => ("FlipBoard$State", "dots", "LFlipBoard$Dots;", true)
  | 1 => ("FlipBoard$State", "meter", "LFlipBoard$Meter;", true)
  | 2 => ("FlipBoard$State", "script", "LFlipBoard$Script;", true)
  | _ => ("FlipBoard$State", "numbers", "[I", true)
def tyX8 : Nat → FieldType := fun k => match k with
  | 0 => .object "FlipBoard$Dots"
  | 1 => .object "FlipBoard$Meter"
  | 2 => .object "FlipBoard$Script"
  | _ => .array .int
theorem nmX8 : ∀ a, a < 4 → ∀ b, b < 4 → a ≠ b → (TX8 a).2.1 ≠ (TX8 b).2.1 := by decide +kernel
theorem tyX8_ok : ∀ k, k < 4 → parseFieldDescriptor (TX8 k).2.2.1 = some (tyX8 k) := by decide +kernel
abbrev cX8_init : ByteArray := prog_10_method_1_code
def yX8_init : MethodName := ⟨RX8, "<init>", "()V"⟩
abbrev cX8_copyFrom : ByteArray := prog_10_method_2_code
def yX8_copyFrom : MethodName := ⟨RX8, "copyFrom", "(LFlipBoard$State;)V"⟩
abbrev cX8_hasNumber : ByteArray := prog_10_method_3_code
def yX8_hasNumber : MethodName := ⟨RX8, "hasNumber", "(I)Z"⟩
abbrev cX8_tryDot : ByteArray := prog_10_method_4_code
def yX8_tryDot : MethodName := ⟨RX8, "tryDot", "(II)V"⟩
def RX9 : String := "FlipBoard"
def TX9 : u_T := fun k => match k with
  | 0 => ("FlipBoard", "now", "LFlipBoard$State;", true)
  | 1 => ("FlipBoard", "trial", "LFlipBoard$State;", true)
  | 2 => ("FlipBoard", "history", "LFlipBoard$History;", true)
  | 3 => ("FlipBoard", "painter", "LFlipBoard$Painter;", true)
  | 4 => ("FlipBoard", "flipper", "LFlipBoard$Flipper;", true)
  | 5 => ("FlipBoard", "reader", "LFlipBoard$Reader;", true)
  | 6 => ("FlipBoard", "orders", "LFlipBoard$Orders;", true)
  | 7 => ("FlipBoard", "text", "[I", true)
  | _ => ("FlipBoard", "textLength", "I", false)
def tyX9 : Nat → FieldType := fun k => match k with
  | 0 => .object "FlipBoard$State"
  | 1 => .object "FlipBoard$State"
  | 2 => .object "FlipBoard$History"
  | 3 => .object "FlipBoard$Painter"
  | 4 => .object "FlipBoard$Flipper"
  | 5 => .object "FlipBoard$Reader"
  | 6 => .object "FlipBoard$Orders"
  | 7 => .array .int
  | _ => .int
theorem nmX9 : ∀ a, a < 9 → ∀ b, b < 9 → a ≠ b → (TX9 a).2.1 ≠ (TX9 b).2.1 := by decide +kernel
theorem tyX9_ok : ∀ k, k < 9 → parseFieldDescriptor (TX9 k).2.2.1 = some (tyX9 k) := by decide +kernel
abbrev cX9_init : ByteArray := prog_1_method_1_code
def yX9_init : MethodName := ⟨RX9, "<init>", "()V"⟩
abbrev cX9_begin : ByteArray := prog_1_method_2_code
def yX9_begin : MethodName := ⟨RX9, "begin", "(I)I"⟩
abbrev cX9_setNumber : ByteArray := prog_1_method_3_code
def yX9_setNumber : MethodName := ⟨RX9, "setNumber", "(II)I"⟩
abbrev cX9_setColumn : ByteArray := prog_1_method_4_code
def yX9_setColumn : MethodName := ⟨RX9, "setColumn", "(III)I"⟩
abbrev cX9_addMessage : ByteArray := prog_1_method_5_code
def yX9_addMessage : MethodName := ⟨RX9, "addMessage", "(II)I"⟩
abbrev cX9_removeMessage : ByteArray := prog_1_method_6_code
def yX9_removeMessage : MethodName := ⟨RX9, "removeMessage", "(I)I"⟩
abbrev cX9_appendCharacter : ByteArray := prog_1_method_7_code
def yX9_appendCharacter : MethodName := ⟨RX9, "appendCharacter", "(I)I"⟩
abbrev cX9_clearText : ByteArray := prog_1_method_8_code
def yX9_clearText : MethodName := ⟨RX9, "clearText", "()I"⟩
abbrev cX9_load : ByteArray := prog_1_method_9_code
def yX9_load : MethodName := ⟨RX9, "load", "()I"⟩
abbrev cX9_show : ByteArray := prog_1_method_10_code
def yX9_show : MethodName := ⟨RX9, "show", "(II)I"⟩
abbrev cX9_darken : ByteArray := prog_1_method_11_code
def yX9_darken : MethodName := ⟨RX9, "darken", "()I"⟩
abbrev cX9_jam : ByteArray := prog_1_method_12_code
def yX9_jam : MethodName := ⟨RX9, "jam", "(II)I"⟩
abbrev cX9_mend : ByteArray := prog_1_method_13_code
def yX9_mend : MethodName := ⟨RX9, "mend", "(II)I"⟩
abbrev cX9_pass : ByteArray := prog_1_method_14_code
def yX9_pass : MethodName := ⟨RX9, "pass", "(I)I"⟩
abbrev cX9_count : ByteArray := prog_1_method_15_code
def yX9_count : MethodName := ⟨RX9, "count", "(I)I"⟩
abbrev cX9_column : ByteArray := prog_1_method_16_code
def yX9_column : MethodName := ⟨RX9, "column", "(II)I"⟩
abbrev cX9_flips : ByteArray := prog_1_method_17_code
def yX9_flips : MethodName := ⟨RX9, "flips", "(II)I"⟩
abbrev cX9_letter : ByteArray := prog_1_method_18_code
def yX9_letter : MethodName := ⟨RX9, "letter", "(II)I"⟩
abbrev cX9_message : ByteArray := prog_1_method_19_code
def yX9_message : MethodName := ⟨RX9, "message", "(II)I"⟩
abbrev cX9_strip : ByteArray := prog_1_method_20_code
def yX9_strip : MethodName := ⟨RX9, "strip", "(I)I"⟩
abbrev cX9_picture : ByteArray := prog_1_method_21_code
def yX9_picture : MethodName := ⟨RX9, "picture", "(III)I"⟩
abbrev cX9_power : ByteArray := prog_1_method_22_code
def yX9_power : MethodName := ⟨RX9, "power", "(I)I"⟩
abbrev cX9_bestShift : ByteArray := prog_1_method_23_code
def yX9_bestShift : MethodName := ⟨RX9, "bestShift", "(I)I"⟩
abbrev cX9_due : ByteArray := prog_1_method_24_code
def yX9_due : MethodName := ⟨RX9, "due", "(II)I"⟩
abbrev cX9_secondsFor : ByteArray := prog_1_method_25_code
def yX9_secondsFor : MethodName := ⟨RX9, "secondsFor", "(II)I"⟩
abbrev cX9_between : ByteArray := prog_1_method_26_code
def yX9_between : MethodName := ⟨RX9, "between", "(II)I"⟩
abbrev cX9_bestOrder : ByteArray := prog_1_method_27_code
def yX9_bestOrder : MethodName := ⟨RX9, "bestOrder", "(II)I"⟩
abbrev cX9_undo : ByteArray := prog_1_method_28_code
def yX9_undo : MethodName := ⟨RX9, "undo", "()I"⟩
abbrev cX9_canShow : ByteArray := prog_1_method_29_code
def yX9_canShow : MethodName := ⟨RX9, "canShow", "(II)Z"⟩
abbrev cX9_isSetToOrder : ByteArray := prog_1_method_30_code
def yX9_isSetToOrder : MethodName := ⟨RX9, "isSetToOrder", "(I)Z"⟩
abbrev cX9_copy : ByteArray := prog_1_method_31_code
def yX9_copy : MethodName := ⟨RX9, "copy", "([I[I)V"⟩
def RX10 : String := "FlipBoardModel"
def TX10 : u_T := fun k => match k with
  | 0 => ("FlipBoardModel", "s", "[I", true)
  | 1 => ("FlipBoardModel", "past", "[I", true)
  | 2 => ("FlipBoardModel", "aside", "[I", true)
  | 3 => ("FlipBoardModel", "kept", "[I", true)
  | 4 => ("FlipBoardModel", "pasts", "I", false)
  | 5 => ("FlipBoardModel", "text", "[I", true)
  | 6 => ("FlipBoardModel", "typed", "I", false)
  | 7 => ("FlipBoardModel", "picture", "[I", true)
  | 8 => ("FlipBoardModel", "other", "[I", true)
  | 9 => ("FlipBoardModel", "began", "[I", true)
  | 10 => ("FlipBoardModel", "spot", "I", false)
  | 11 => ("FlipBoardModel", "order", "[I", true)
  | 12 => ("FlipBoardModel", "bestOne", "[I", true)
  | 13 => ("FlipBoardModel", "orderMany", "I", false)
  | 14 => ("FlipBoardModel", "firstFlips", "[I", true)
  | _ => ("FlipBoardModel", "flipsBetween", "[I", true)
def tyX10 : Nat → FieldType := fun k => match k with
  | 0 => .array .int
  | 1 => .array .int
  | 2 => .array .int
  | 3 => .array .int
  | 4 => .int
  | 5 => .array .int
  | 6 => .int
  | 7 => .array .int
  | 8 => .array .int
  | 9 => .array .int
  | 10 => .int
  | 11 => .array .int
  | 12 => .array .int
  | 13 => .int
  | 14 => .array .int
  | _ => .array .int
theorem nmX10 : ∀ a, a < 16 → ∀ b, b < 16 → a ≠ b → (TX10 a).2.1 ≠ (TX10 b).2.1 := by decide +kernel
theorem tyX10_ok : ∀ k, k < 16 → parseFieldDescriptor (TX10 k).2.2.1 = some (tyX10 k) := by decide +kernel
abbrev cX10_init : ByteArray := prog_12_method_1_code
def yX10_init : MethodName := ⟨RX10, "<init>", "()V"⟩
abbrev cX10_in : ByteArray := prog_12_method_3_code
def yX10_in : MethodName := ⟨RX10, "in", "(III)Z"⟩
abbrev cX10_copies : ByteArray := prog_12_method_4_code
def yX10_copies : MethodName := ⟨RX10, "copies", "([I[I)V"⟩
abbrev cX10_hold : ByteArray := prog_12_method_5_code
def yX10_hold : MethodName := ⟨RX10, "hold", "()V"⟩
abbrev cX10_ends : ByteArray := prog_12_method_6_code
def yX10_ends : MethodName := ⟨RX10, "ends", "(I)I"⟩
abbrev cX10_isColumn : ByteArray := prog_12_method_7_code
def yX10_isColumn : MethodName := ⟨RX10, "isColumn", "(I)Z"⟩
abbrev cX10_isMessage : ByteArray := prog_12_method_8_code
def yX10_isMessage : MethodName := ⟨RX10, "isMessage", "(I)Z"⟩
abbrev cX10_bits : ByteArray := prog_12_method_9_code
def yX10_bits : MethodName := ⟨RX10, "bits", "(I)I"⟩
abbrev cX10_lengthOf : ByteArray := prog_12_method_10_code
def yX10_lengthOf : MethodName := ⟨RX10, "lengthOf", "(I)I"⟩
abbrev cX10_characterOf : ByteArray := prog_12_method_11_code
def yX10_characterOf : MethodName := ⟨RX10, "characterOf", "(II)I"⟩
abbrev cX10_wideOf : ByteArray := prog_12_method_12_code
def yX10_wideOf : MethodName := ⟨RX10, "wideOf", "(I)I"⟩
abbrev cX10_stripOf : ByteArray := prog_12_method_13_code
def yX10_stripOf : MethodName := ⟨RX10, "stripOf", "(I)I"⟩
abbrev cX10_lays : ByteArray := prog_12_method_14_code
def yX10_lays : MethodName := ⟨RX10, "lays", "(II[I)V"⟩
abbrev cX10_differs : ByteArray := prog_12_method_15_code
def yX10_differs : MethodName := ⟨RX10, "differs", "([II[IZ)I"⟩
abbrev cX10_bestOf : ByteArray := prog_12_method_16_code
def yX10_bestOf : MethodName := ⟨RX10, "bestOf", "(I)I"⟩
abbrev cX10_shiftFor : ByteArray := prog_12_method_17_code
def yX10_shiftFor : MethodName := ⟨RX10, "shiftFor", "(II)I"⟩
abbrev cX10_dueOf : ByteArray := prog_12_method_18_code
def yX10_dueOf : MethodName := ⟨RX10, "dueOf", "(I)I"⟩
abbrev cX10_dueMany : ByteArray := prog_12_method_19_code
def yX10_dueMany : MethodName := ⟨RX10, "dueMany", "()I"⟩
abbrev cX10_nextColumn : ByteArray := prog_12_method_20_code
def yX10_nextColumn : MethodName := ⟨RX10, "nextColumn", "(I)I"⟩
abbrev cX10_flipsAt : ByteArray := prog_12_method_21_code
def yX10_flipsAt : MethodName := ⟨RX10, "flipsAt", "(II)V"⟩
abbrev cX10_second : ByteArray := prog_12_method_22_code
def yX10_second : MethodName := ⟨RX10, "second", "()V"⟩
abbrev cX10_begin : ByteArray := prog_12_method_23_code
def yX10_begin : MethodName := ⟨RX10, "begin", "(I)I"⟩
abbrev cX10_isNumber : ByteArray := prog_12_method_24_code
def yX10_isNumber : MethodName := ⟨RX10, "isNumber", "(II)Z"⟩
abbrev cX10_setNumber : ByteArray := prog_12_method_25_code
def yX10_setNumber : MethodName := ⟨RX10, "setNumber", "(II)I"⟩
abbrev cX10_setColumn : ByteArray := prog_12_method_26_code
def yX10_setColumn : MethodName := ⟨RX10, "setColumn", "(III)I"⟩
abbrev cX10_addMessage : ByteArray := prog_12_method_27_code
def yX10_addMessage : MethodName := ⟨RX10, "addMessage", "(II)I"⟩
abbrev cX10_removeMessage : ByteArray := prog_12_method_28_code
def yX10_removeMessage : MethodName := ⟨RX10, "removeMessage", "(I)I"⟩
abbrev cX10_appendCharacter : ByteArray := prog_12_method_29_code
def yX10_appendCharacter : MethodName := ⟨RX10, "appendCharacter", "(I)I"⟩
abbrev cX10_clearText : ByteArray := prog_12_method_30_code
def yX10_clearText : MethodName := ⟨RX10, "clearText", "()I"⟩
abbrev cX10_here : ByteArray := prog_12_method_31_code
def yX10_here : MethodName := ⟨RX10, "here", "()I"⟩
abbrev cX10_skips : ByteArray := prog_12_method_32_code
def yX10_skips : MethodName := ⟨RX10, "skips", "()V"⟩
abbrev cX10_digitOf : ByteArray := prog_12_method_33_code
def yX10_digitOf : MethodName := ⟨RX10, "digitOf", "(I)I"⟩
abbrev cX10_isLetter : ByteArray := prog_12_method_34_code
def yX10_isLetter : MethodName := ⟨RX10, "isLetter", "()Z"⟩
abbrev cX10_isText : ByteArray := prog_12_method_35_code
def yX10_isText : MethodName := ⟨RX10, "isText", "()Z"⟩
abbrev cX10_load : ByteArray := prog_12_method_36_code
def yX10_load : MethodName := ⟨RX10, "load", "()I"⟩
abbrev cX10_aims : ByteArray := prog_12_method_37_code
def yX10_aims : MethodName := ⟨RX10, "aims", "(II)V"⟩
abbrev cX10_isShow : ByteArray := prog_12_method_38_code
def yX10_isShow : MethodName := ⟨RX10, "isShow", "(II)Z"⟩
abbrev cX10_show : ByteArray := prog_12_method_39_code
def yX10_show : MethodName := ⟨RX10, "show", "(II)I"⟩
abbrev cX10_darken : ByteArray := prog_12_method_40_code
def yX10_darken : MethodName := ⟨RX10, "darken", "()I"⟩
abbrev cX10_isDot : ByteArray := prog_12_method_41_code
def yX10_isDot : MethodName := ⟨RX10, "isDot", "(II)Z"⟩
abbrev cX10_jam : ByteArray := prog_12_method_42_code
def yX10_jam : MethodName := ⟨RX10, "jam", "(II)I"⟩
abbrev cX10_mend : ByteArray := prog_12_method_43_code
def yX10_mend : MethodName := ⟨RX10, "mend", "(II)I"⟩
abbrev cX10_pass : ByteArray := prog_12_method_44_code
def yX10_pass : MethodName := ⟨RX10, "pass", "(I)I"⟩
abbrev cX10_bitsOf : ByteArray := prog_12_method_45_code
def yX10_bitsOf : MethodName := ⟨RX10, "bitsOf", "(I)I"⟩
abbrev cX10_offMany : ByteArray := prog_12_method_46_code
def yX10_offMany : MethodName := ⟨RX10, "offMany", "()I"⟩
abbrev cX10_count : ByteArray := prog_12_method_47_code
def yX10_count : MethodName := ⟨RX10, "count", "(I)I"⟩
abbrev cX10_column : ByteArray := prog_12_method_48_code
def yX10_column : MethodName := ⟨RX10, "column", "(II)I"⟩
abbrev cX10_flips : ByteArray := prog_12_method_49_code
def yX10_flips : MethodName := ⟨RX10, "flips", "(II)I"⟩
abbrev cX10_letter : ByteArray := prog_12_method_50_code
def yX10_letter : MethodName := ⟨RX10, "letter", "(II)I"⟩
abbrev cX10_message : ByteArray := prog_12_method_51_code
def yX10_message : MethodName := ⟨RX10, "message", "(II)I"⟩
abbrev cX10_strip : ByteArray := prog_12_method_52_code
def yX10_strip : MethodName := ⟨RX10, "strip", "(I)I"⟩
abbrev cX10_picture : ByteArray := prog_12_method_53_code
def yX10_picture : MethodName := ⟨RX10, "picture", "(III)I"⟩
abbrev cX10_power : ByteArray := prog_12_method_54_code
def yX10_power : MethodName := ⟨RX10, "power", "(I)I"⟩
abbrev cX10_bestShift : ByteArray := prog_12_method_55_code
def yX10_bestShift : MethodName := ⟨RX10, "bestShift", "(I)I"⟩
abbrev cX10_due : ByteArray := prog_12_method_56_code
def yX10_due : MethodName := ⟨RX10, "due", "(II)I"⟩
abbrev cX10_secondsFor : ByteArray := prog_12_method_57_code
def yX10_secondsFor : MethodName := ⟨RX10, "secondsFor", "(II)I"⟩
abbrev cX10_betweenOf : ByteArray := prog_12_method_58_code
def yX10_betweenOf : MethodName := ⟨RX10, "betweenOf", "(II)I"⟩
abbrev cX10_between : ByteArray := prog_12_method_59_code
def yX10_between : MethodName := ⟨RX10, "between", "(II)I"⟩
abbrev cX10_flipsFor : ByteArray := prog_12_method_60_code
def yX10_flipsFor : MethodName := ⟨RX10, "flipsFor", "()I"⟩
abbrev cX10_swaps : ByteArray := prog_12_method_61_code
def yX10_swaps : MethodName := ⟨RX10, "swaps", "(II)V"⟩
abbrev cX10_goesOn : ByteArray := prog_12_method_62_code
def yX10_goesOn : MethodName := ⟨RX10, "goesOn", "()Z"⟩
abbrev cX10_laysFlips : ByteArray := prog_12_method_63_code
def yX10_laysFlips : MethodName := ⟨RX10, "laysFlips", "()V"⟩
abbrev cX10_bestOrder : ByteArray := prog_12_method_64_code
def yX10_bestOrder : MethodName := ⟨RX10, "bestOrder", "(II)I"⟩
abbrev cX10_undo : ByteArray := prog_12_method_65_code
def yX10_undo : MethodName := ⟨RX10, "undo", "()I"⟩
def RJx8e188 : String := "java/lang/Cloneable"
def RJ6 : String := "java/lang/Integer"
abbrev cJ6_bitCount_0f7a4 : ByteArray := prog_14_method_49_code
def yJ6_bitCount_0f7a4 : MethodName := ⟨RJ6, "bitCount", "(I)I"⟩
def RJ9 : String := "java/lang/Math"
abbrev cJ9_floorMod_7cf53 : ByteArray := prog_15_method_50_code
def yJ9_floorMod_7cf53 : MethodName := ⟨RJ9, "floorMod", "(II)I"⟩
abbrev cJ9_max_7cf53 : ByteArray := prog_15_method_65_code
def yJ9_max_7cf53 : MethodName := ⟨RJ9, "max", "(II)I"⟩
abbrev cJ9_min_7cf53 : ByteArray := prog_15_method_69_code
def yJ9_min_7cf53 : MethodName := ⟨RJ9, "min", "(II)I"⟩
def RJ10 : String := "java/lang/System"
def RJ7 : String := "java/util/Arrays"
abbrev cJ7_fill_53178 : ByteArray := prog_17_method_103_code
def yJ7_fill_53178 : MethodName := ⟨RJ7, "fill", "([II)V"⟩
def RL : String := "FlipBoardLaw"
abbrev cL_law : ByteArray := code
def yL_law : MethodName := ⟨RL, "law", "([I)Z"⟩
abbrev vwCl : List vw_C := [(RX0, TX0, 6), (RX1, TX1, 1), (RX2, TX2, 3), (RX3, TX3, 5), (RX4, TX4, 5), (RX5, TX5, 2), (RX6, TX6, 5), (RX7, TX7, 5), (RX8, TX8, 4), (RX9, TX9, 9), (RX10, TX10, 16)]
end
section
theorem dX0_init_0 : decode cX0_init 0 = .ok (.aload_n 0, 1) := by decide +kernel
theorem dX0_init_1 : decode cX0_init 1 = .ok (.invokespecial 3, 3) := by decide +kernel
theorem dX0_init_4 : decode cX0_init 4 = .ok (.aload_n 0, 1) := by decide +kernel
theorem dX0_init_5 : decode cX0_init 5 = .ok (.bipush 20, 2) := by decide +kernel
theorem dX0_init_7 : decode cX0_init 7 = .ok (.putfield 9, 3) := by decide +kernel
theorem dX0_init_10 : decode cX0_init 10 = .ok (.aload_n 0, 1) := by decide +kernel
theorem dX0_init_11 : decode cX0_init 11 = .ok (.bipush 40, 2) := by decide +kernel
theorem dX0_init_13 : decode cX0_init 13 = .ok (.newarray .int, 2) := by decide +kernel
theorem dX0_init_15 : decode cX0_init 15 = .ok (.putfield 15, 3) := by decide +kernel
theorem dX0_init_18 : decode cX0_init 18 = .ok (.aload_n 0, 1) := by decide +kernel
theorem dX0_init_19 : decode cX0_init 19 = .ok (.bipush 40, 2) := by decide +kernel
theorem dX0_init_21 : decode cX0_init 21 = .ok (.newarray .int, 2) := by decide +kernel
theorem dX0_init_23 : decode cX0_init 23 = .ok (.putfield 19, 3) := by decide +kernel
theorem dX0_init_26 : decode cX0_init 26 = .ok (.aload_n 0, 1) := by decide +kernel
theorem dX0_init_27 : decode cX0_init 27 = .ok (.bipush 40, 2) := by decide +kernel
theorem dX0_init_29 : decode cX0_init 29 = .ok (.newarray .int, 2) := by decide +kernel
theorem dX0_init_31 : decode cX0_init 31 = .ok (.putfield 22, 3) := by decide +kernel
theorem dX0_init_34 : decode cX0_init 34 = .ok (.aload_n 0, 1) := by decide +kernel
theorem dX0_init_35 : decode cX0_init 35 = .ok (.bipush 40, 2) := by decide +kernel
theorem dX0_init_37 : decode cX0_init 37 = .ok (.newarray .int, 2) := by decide +kernel
theorem dX0_init_39 : decode cX0_init 39 = .ok (.putfield 25, 3) := by decide +kernel
theorem dX0_init_42 : decode cX0_init 42 = .ok (.aload_n 0, 1) := by decide +kernel
theorem dX0_init_43 : decode cX0_init 43 = .ok (.sipush 280, 3) := by decide +kernel
theorem dX0_init_46 : decode cX0_init 46 = .ok (.newarray .int, 2) := by decide +kernel
theorem dX0_init_48 : decode cX0_init 48 = .ok (.putfield 28, 3) := by decide +kernel
theorem dX0_init_51 : decode cX0_init 51 = .ok (.return_, 1) := by decide +kernel
theorem dX0_copyFrom_0 : decode cX0_copyFrom 0 = .ok (.aload_n 0, 1) := by decide +kernel
theorem dX0_copyFrom_1 : decode cX0_copyFrom 1 = .ok (.aload_n 1, 1) := by decide +kernel
theorem dX0_copyFrom_2 : decode cX0_copyFrom 2 = .ok (.getfield 9, 3) := by decide +kernel
theorem dX0_copyFrom_5 : decode cX0_copyFrom 5 = .ok (.putfield 9, 3) := by decide +kernel
theorem dX0_copyFrom_8 : decode cX0_copyFrom 8 = .ok (.aload_n 1, 1) := by decide +kernel
theorem dX0_copyFrom_9 : decode cX0_copyFrom 9 = .ok (.getfield 15, 3) := by decide +kernel
theorem dX0_copyFrom_12 : decode cX0_copyFrom 12 = .ok (.aload_n 0, 1) := by decide +kernel
theorem dX0_copyFrom_13 : decode cX0_copyFrom 13 = .ok (.getfield 15, 3) := by decide +kernel
theorem dX0_copyFrom_16 : decode cX0_copyFrom 16 = .ok (.invokestatic 31, 3) := by decide +kernel
theorem dX0_copyFrom_19 : decode cX0_copyFrom 19 = .ok (.aload_n 1, 1) := by decide +kernel
theorem dX0_copyFrom_20 : decode cX0_copyFrom 20 = .ok (.getfield 19, 3) := by decide +kernel
theorem dX0_copyFrom_23 : decode cX0_copyFrom 23 = .ok (.aload_n 0, 1) := by decide +kernel
theorem dX0_copyFrom_24 : decode cX0_copyFrom 24 = .ok (.getfield 19, 3) := by decide +kernel
theorem dX0_copyFrom_27 : decode cX0_copyFrom 27 = .ok (.invokestatic 31, 3) := by decide +kernel
theorem dX0_copyFrom_30 : decode cX0_copyFrom 30 = .ok (.aload_n 1, 1) := by decide +kernel
theorem dX0_copyFrom_31 : decode cX0_copyFrom 31 = .ok (.getfield 22, 3) := by decide +kernel
theorem dX0_copyFrom_34 : decode cX0_copyFrom 34 = .ok (.aload_n 0, 1) := by decide +kernel
theorem dX0_copyFrom_35 : decode cX0_copyFrom 35 = .ok (.getfield 22, 3) := by decide +kernel
theorem dX0_copyFrom_38 : decode cX0_copyFrom 38 = .ok (.invokestatic 31, 3) := by decide +kernel
theorem dX0_copyFrom_41 : decode cX0_copyFrom 41 = .ok (.aload_n 1, 1) := by decide +kernel
theorem dX0_copyFrom_42 : decode cX0_copyFrom 42 = .ok (.getfield 25, 3) := by decide +kernel
theorem dX0_copyFrom_45 : decode cX0_copyFrom 45 = .ok (.aload_n 0, 1) := by decide +kernel
theorem dX0_copyFrom_46 : decode cX0_copyFrom 46 = .ok (.getfield 25, 3) := by decide +kernel
theorem dX0_copyFrom_49 : decode cX0_copyFrom 49 = .ok (.invokestatic 31, 3) := by decide +kernel
theorem dX0_copyFrom_52 : decode cX0_copyFrom 52 = .ok (.aload_n 1, 1) := by decide +kernel
theorem dX0_copyFrom_53 : decode cX0_copyFrom 53 = .ok (.getfield 28, 3) := by decide +kernel
theorem dX0_copyFrom_56 : decode cX0_copyFrom 56 = .ok (.aload_n 0, 1) := by decide +kernel
theorem dX0_copyFrom_57 : decode cX0_copyFrom 57 = .ok (.getfield 28, 3) := by decide +kernel
theorem dX0_copyFrom_60 : decode cX0_copyFrom 60 = .ok (.invokestatic 31, 3) := by decide +kernel
theorem dX0_copyFrom_63 : decode cX0_copyFrom 63 = .ok (.return_, 1) := by decide +kernel
theorem dX0_renew_0 : decode cX0_renew 0 = .ok (.aload_n 0, 1) := by decide +kernel
theorem dX0_renew_1 : decode cX0_renew 1 = .ok (.iload_n 1, 1) := by decide +kernel
theorem dX0_renew_2 : decode cX0_renew 2 = .ok (.putfield 9, 3) := by decide +kernel
theorem dX0_renew_5 : decode cX0_renew 5 = .ok (.aload_n 0, 1) := by decide +kernel
theorem dX0_renew_6 : decode cX0_renew 6 = .ok (.getfield 15, 3) := by decide +kernel
theorem dX0_renew_9 : decode cX0_renew 9 = .ok (.iconst 0, 1) := by decide +kernel
theorem dX0_renew_10 : decode cX0_renew 10 = .ok (.invokestatic 35, 3) := by decide +kernel
theorem dX0_renew_13 : decode cX0_renew 13 = .ok (.aload_n 0, 1) := by decide +kernel
theorem dX0_renew_14 : decode cX0_renew 14 = .ok (.getfield 19, 3) := by decide +kernel
theorem dX0_renew_17 : decode cX0_renew 17 = .ok (.iconst 0, 1) := by decide +kernel
theorem dX0_renew_18 : decode cX0_renew 18 = .ok (.invokestatic 35, 3) := by decide +kernel
theorem dX0_renew_21 : decode cX0_renew 21 = .ok (.aload_n 0, 1) := by decide +kernel
theorem dX0_renew_22 : decode cX0_renew 22 = .ok (.getfield 22, 3) := by decide +kernel
theorem dX0_renew_25 : decode cX0_renew 25 = .ok (.iconst 0, 1) := by decide +kernel
theorem dX0_renew_26 : decode cX0_renew 26 = .ok (.invokestatic 35, 3) := by decide +kernel
theorem dX0_renew_29 : decode cX0_renew 29 = .ok (.aload_n 0, 1) := by decide +kernel
theorem dX0_renew_30 : decode cX0_renew 30 = .ok (.getfield 25, 3) := by decide +kernel
theorem dX0_renew_33 : decode cX0_renew 33 = .ok (.iconst 0, 1) := by decide +kernel
theorem dX0_renew_34 : decode cX0_renew 34 = .ok (.invokestatic 35, 3) := by decide +kernel
theorem dX0_renew_37 : decode cX0_renew 37 = .ok (.aload_n 0, 1) := by decide +kernel
theorem dX0_renew_38 : decode cX0_renew 38 = .ok (.getfield 28, 3) := by decide +kernel
theorem dX0_renew_41 : decode cX0_renew 41 = .ok (.iconst 0, 1) := by decide +kernel
theorem dX0_renew_42 : decode cX0_renew 42 = .ok (.invokestatic 35, 3) := by decide +kernel
theorem dX0_renew_45 : decode cX0_renew 45 = .ok (.return_, 1) := by decide +kernel
theorem dX0_hasColumn_0 : decode cX0_hasColumn 0 = .ok (.iload_n 1, 1) := by decide +kernel
theorem dX0_hasColumn_1 : decode cX0_hasColumn 1 = .ok (.ifCond .lt 21, 3) := by decide +kernel
theorem dX0_hasColumn_4 : decode cX0_hasColumn 4 = .ok (.iload_n 1, 1) := by decide +kernel
theorem dX0_hasColumn_5 : decode cX0_hasColumn 5 = .ok (.aload_n 0, 1) := by decide +kernel
theorem dX0_hasColumn_6 : decode cX0_hasColumn 6 = .ok (.getfield 9, 3) := by decide +kernel
theorem dX0_hasColumn_9 : decode cX0_hasColumn 9 = .ok (.if_icmp .ge 13, 3) := by decide +kernel
theorem dX0_hasColumn_12 : decode cX0_hasColumn 12 = .ok (.iload_n 1, 1) := by decide +kernel
theorem dX0_hasColumn_13 : decode cX0_hasColumn 13 = .ok (.bipush 40, 2) := by decide +kernel
theorem dX0_hasColumn_15 : decode cX0_hasColumn 15 = .ok (.if_icmp .ge 7, 3) := by decide +kernel
theorem dX0_hasColumn_18 : decode cX0_hasColumn 18 = .ok (.iconst 1, 1) := by decide +kernel
theorem dX0_hasColumn_19 : decode cX0_hasColumn 19 = .ok (.goto 4, 3) := by decide +kernel
theorem dX0_hasColumn_22 : decode cX0_hasColumn 22 = .ok (.iconst 0, 1) := by decide +kernel
theorem dX0_hasColumn_23 : decode cX0_hasColumn 23 = .ok (.ireturn, 1) := by decide +kernel
theorem dX0_hasDot_0 : decode cX0_hasDot 0 = .ok (.aload_n 0, 1) := by decide +kernel
theorem dX0_hasDot_1 : decode cX0_hasDot 1 = .ok (.iload_n 1, 1) := by decide +kernel
theorem dX0_hasDot_2 : decode cX0_hasDot 2 = .ok (.invokevirtual 41, 3) := by decide +kernel
theorem dX0_hasDot_5 : decode cX0_hasDot 5 = .ok (.ifCond .eq 17, 3) := by decide +kernel
theorem dX0_hasDot_8 : decode cX0_hasDot 8 = .ok (.iload_n 2, 1) := by decide +kernel
theorem dX0_hasDot_9 : decode cX0_hasDot 9 = .ok (.ifCond .lt 13, 3) := by decide +kernel
theorem dX0_hasDot_12 : decode cX0_hasDot 12 = .ok (.iload_n 2, 1) := by decide +kernel
theorem dX0_hasDot_13 : decode cX0_hasDot 13 = .ok (.bipush 7, 2) := by decide +kernel
theorem dX0_hasDot_15 : decode cX0_hasDot 15 = .ok (.if_icmp .ge 7, 3) := by decide +kernel
theorem dX0_hasDot_18 : decode cX0_hasDot 18 = .ok (.iconst 1, 1) := by decide +kernel
theorem dX0_hasDot_19 : decode cX0_hasDot 19 = .ok (.goto 4, 3) := by decide +kernel
theorem dX0_hasDot_22 : decode cX0_hasDot 22 = .ok (.iconst 0, 1) := by decide +kernel
theorem dX0_hasDot_23 : decode cX0_hasDot 23 = .ok (.ireturn, 1) := by decide +kernel
theorem dX0_aimAt_0 : decode cX0_aimAt 0 = .ok (.aload_n 1, 1) := by decide +kernel
theorem dX0_aimAt_1 : decode cX0_aimAt 1 = .ok (.aload_n 0, 1) := by decide +kernel
theorem dX0_aimAt_2 : decode cX0_aimAt 2 = .ok (.getfield 19, 3) := by decide +kernel
theorem dX0_aimAt_5 : decode cX0_aimAt 5 = .ok (.invokestatic 31, 3) := by decide +kernel
theorem dX0_aimAt_8 : decode cX0_aimAt 8 = .ok (.return_, 1) := by decide +kernel
theorem dX0_aimAtDark_0 : decode cX0_aimAtDark 0 = .ok (.aload_n 0, 1) := by decide +kernel
theorem dX0_aimAtDark_1 : decode cX0_aimAtDark 1 = .ok (.getfield 19, 3) := by decide +kernel
theorem dX0_aimAtDark_4 : decode cX0_aimAtDark 4 = .ok (.iconst 0, 1) := by decide +kernel
theorem dX0_aimAtDark_5 : decode cX0_aimAtDark 5 = .ok (.invokestatic 35, 3) := by decide +kernel
theorem dX0_aimAtDark_8 : decode cX0_aimAtDark 8 = .ok (.return_, 1) := by decide +kernel
theorem dX0_dueBits_0 : decode cX0_dueBits 0 = .ok (.aload_n 0, 1) := by decide +kernel
theorem dX0_dueBits_1 : decode cX0_dueBits 1 = .ok (.iload_n 1, 1) := by decide +kernel
theorem dX0_dueBits_2 : decode cX0_dueBits 2 = .ok (.invokevirtual 41, 3) := by decide +kernel
theorem dX0_dueBits_5 : decode cX0_dueBits 5 = .ok (.ifCond .eq 28, 3) := by decide +kernel
theorem dX0_dueBits_8 : decode cX0_dueBits 8 = .ok (.aload_n 0, 1) := by decide +kernel
theorem dX0_dueBits_9 : decode cX0_dueBits 9 = .ok (.getfield 19, 3) := by decide +kernel
theorem dX0_dueBits_12 : decode cX0_dueBits 12 = .ok (.iload_n 1, 1) := by decide +kernel
theorem dX0_dueBits_13 : decode cX0_dueBits 13 = .ok (.iaload, 1) := by decide +kernel
theorem dX0_dueBits_14 : decode cX0_dueBits 14 = .ok (.aload_n 0, 1) := by decide +kernel
theorem dX0_dueBits_15 : decode cX0_dueBits 15 = .ok (.getfield 15, 3) := by decide +kernel
theorem dX0_dueBits_18 : decode cX0_dueBits 18 = .ok (.iload_n 1, 1) := by decide +kernel
theorem dX0_dueBits_19 : decode cX0_dueBits 19 = .ok (.iaload, 1) := by decide +kernel
theorem dX0_dueBits_20 : decode cX0_dueBits 20 = .ok (.ixor, 1) := by decide +kernel
theorem dX0_dueBits_21 : decode cX0_dueBits 21 = .ok (.aload_n 0, 1) := by decide +kernel
theorem dX0_dueBits_22 : decode cX0_dueBits 22 = .ok (.getfield 25, 3) := by decide +kernel
theorem dX0_dueBits_25 : decode cX0_dueBits 25 = .ok (.iload_n 1, 1) := by decide +kernel
theorem dX0_dueBits_26 : decode cX0_dueBits 26 = .ok (.iaload, 1) := by decide +kernel
theorem dX0_dueBits_27 : decode cX0_dueBits 27 = .ok (.iconst (-1), 1) := by decide +kernel
theorem dX0_dueBits_28 : decode cX0_dueBits 28 = .ok (.ixor, 1) := by decide +kernel
theorem dX0_dueBits_29 : decode cX0_dueBits 29 = .ok (.iand, 1) := by decide +kernel
theorem dX0_dueBits_30 : decode cX0_dueBits 30 = .ok (.goto 4, 3) := by decide +kernel
theorem dX0_dueBits_33 : decode cX0_dueBits 33 = .ok (.iconst 0, 1) := by decide +kernel
theorem dX0_dueBits_34 : decode cX0_dueBits 34 = .ok (.ireturn, 1) := by decide +kernel
theorem dX0_dueDots_0 : decode cX0_dueDots 0 = .ok (.aload_n 0, 1) := by decide +kernel
theorem dX0_dueDots_1 : decode cX0_dueDots 1 = .ok (.aload_n 0, 1) := by decide +kernel
theorem dX0_dueDots_2 : decode cX0_dueDots 2 = .ok (.getfield 19, 3) := by decide +kernel
theorem dX0_dueDots_5 : decode cX0_dueDots 5 = .ok (.aload_n 0, 1) := by decide +kernel
theorem dX0_dueDots_6 : decode cX0_dueDots 6 = .ok (.getfield 15, 3) := by decide +kernel
theorem dX0_dueDots_9 : decode cX0_dueDots 9 = .ok (.invokevirtual 45, 3) := by decide +kernel
theorem dX0_dueDots_12 : decode cX0_dueDots 12 = .ok (.ireturn, 1) := by decide +kernel
theorem dX0_differing_0 : decode cX0_differing 0 = .ok (.iconst 0, 1) := by decide +kernel
theorem dX0_differing_1 : decode cX0_differing 1 = .ok (.istore_n 3, 1) := by decide +kernel
theorem dX0_differing_2 : decode cX0_differing 2 = .ok (.iconst 0, 1) := by decide +kernel
theorem dX0_differing_3 : decode cX0_differing 3 = .ok (.istore 4, 2) := by decide +kernel
theorem dX0_differing_5 : decode cX0_differing 5 = .ok (.iload 4, 2) := by decide +kernel
theorem dX0_differing_7 : decode cX0_differing 7 = .ok (.bipush 40, 2) := by decide +kernel
theorem dX0_differing_9 : decode cX0_differing 9 = .ok (.if_icmp .ge 52, 3) := by decide +kernel
theorem dX0_differing_12 : decode cX0_differing 12 = .ok (.iload 4, 2) := by decide +kernel
theorem dX0_differing_14 : decode cX0_differing 14 = .ok (.aload_n 1, 1) := by decide +kernel
theorem dX0_differing_15 : decode cX0_differing 15 = .ok (.arraylength, 1) := by decide +kernel
theorem dX0_differing_16 : decode cX0_differing 16 = .ok (.if_icmp .ge 39, 3) := by decide +kernel
theorem dX0_differing_19 : decode cX0_differing 19 = .ok (.iload 4, 2) := by decide +kernel
theorem dX0_differing_21 : decode cX0_differing 21 = .ok (.aload_n 2, 1) := by decide +kernel
theorem dX0_differing_22 : decode cX0_differing 22 = .ok (.arraylength, 1) := by decide +kernel
theorem dX0_differing_23 : decode cX0_differing 23 = .ok (.if_icmp .ge 32, 3) := by decide +kernel
theorem dX0_differing_26 : decode cX0_differing 26 = .ok (.aload_n 1, 1) := by decide +kernel
theorem dX0_differing_27 : decode cX0_differing 27 = .ok (.iload 4, 2) := by decide +kernel
theorem dX0_differing_29 : decode cX0_differing 29 = .ok (.iaload, 1) := by decide +kernel
theorem dX0_differing_30 : decode cX0_differing 30 = .ok (.aload_n 2, 1) := by decide +kernel
theorem dX0_differing_31 : decode cX0_differing 31 = .ok (.iload 4, 2) := by decide +kernel
theorem dX0_differing_33 : decode cX0_differing 33 = .ok (.iaload, 1) := by decide +kernel
theorem dX0_differing_34 : decode cX0_differing 34 = .ok (.ixor, 1) := by decide +kernel
theorem dX0_differing_35 : decode cX0_differing 35 = .ok (.istore 5, 2) := by decide +kernel
theorem dX0_differing_37 : decode cX0_differing 37 = .ok (.iload_n 3, 1) := by decide +kernel
theorem dX0_differing_38 : decode cX0_differing 38 = .ok (.iload 5, 2) := by decide +kernel
theorem dX0_differing_40 : decode cX0_differing 40 = .ok (.aload_n 0, 1) := by decide +kernel
theorem dX0_differing_41 : decode cX0_differing 41 = .ok (.getfield 25, 3) := by decide +kernel
theorem dX0_differing_44 : decode cX0_differing 44 = .ok (.iload 4, 2) := by decide +kernel
theorem dX0_differing_46 : decode cX0_differing 46 = .ok (.iaload, 1) := by decide +kernel
theorem dX0_differing_47 : decode cX0_differing 47 = .ok (.iconst (-1), 1) := by decide +kernel
theorem dX0_differing_48 : decode cX0_differing 48 = .ok (.ixor, 1) := by decide +kernel
theorem dX0_differing_49 : decode cX0_differing 49 = .ok (.iand, 1) := by decide +kernel
theorem dX0_differing_50 : decode cX0_differing 50 = .ok (.invokestatic 49, 3) := by decide +kernel
theorem dX0_differing_53 : decode cX0_differing 53 = .ok (.iadd, 1) := by decide +kernel
theorem dX0_differing_54 : decode cX0_differing 54 = .ok (.istore_n 3, 1) := by decide +kernel
theorem dX0_differing_55 : decode cX0_differing 55 = .ok (.iinc 4 1, 3) := by decide +kernel
theorem dX0_differing_58 : decode cX0_differing 58 = .ok (.goto (-53), 3) := by decide +kernel
theorem dX0_differing_61 : decode cX0_differing 61 = .ok (.iload_n 3, 1) := by decide +kernel
theorem dX0_differing_62 : decode cX0_differing 62 = .ok (.ireturn, 1) := by decide +kernel
theorem dX0_stuckDots_0 : decode cX0_stuckDots 0 = .ok (.aload_n 0, 1) := by decide +kernel
theorem dX0_stuckDots_1 : decode cX0_stuckDots 1 = .ok (.getfield 22, 3) := by decide +kernel
theorem dX0_stuckDots_4 : decode cX0_stuckDots 4 = .ok (.invokestatic 55, 3) := by decide +kernel
theorem dX0_stuckDots_7 : decode cX0_stuckDots 7 = .ok (.ireturn, 1) := by decide +kernel
theorem dX0_knownDots_0 : decode cX0_knownDots 0 = .ok (.aload_n 0, 1) := by decide +kernel
theorem dX0_knownDots_1 : decode cX0_knownDots 1 = .ok (.getfield 25, 3) := by decide +kernel
theorem dX0_knownDots_4 : decode cX0_knownDots 4 = .ok (.invokestatic 55, 3) := by decide +kernel
theorem dX0_knownDots_7 : decode cX0_knownDots 7 = .ok (.ireturn, 1) := by decide +kernel
theorem dX0_dotsIn_0 : decode cX0_dotsIn 0 = .ok (.iconst 0, 1) := by decide +kernel
theorem dX0_dotsIn_1 : decode cX0_dotsIn 1 = .ok (.istore_n 1, 1) := by decide +kernel
theorem dX0_dotsIn_2 : decode cX0_dotsIn 2 = .ok (.iconst 0, 1) := by decide +kernel
theorem dX0_dotsIn_3 : decode cX0_dotsIn 3 = .ok (.istore_n 2, 1) := by decide +kernel
theorem dX0_dotsIn_4 : decode cX0_dotsIn 4 = .ok (.iload_n 2, 1) := by decide +kernel
theorem dX0_dotsIn_5 : decode cX0_dotsIn 5 = .ok (.aload_n 0, 1) := by decide +kernel
theorem dX0_dotsIn_6 : decode cX0_dotsIn 6 = .ok (.arraylength, 1) := by decide +kernel
theorem dX0_dotsIn_7 : decode cX0_dotsIn 7 = .ok (.if_icmp .ge 18, 3) := by decide +kernel
theorem dX0_dotsIn_10 : decode cX0_dotsIn 10 = .ok (.iload_n 1, 1) := by decide +kernel
theorem dX0_dotsIn_11 : decode cX0_dotsIn 11 = .ok (.aload_n 0, 1) := by decide +kernel
theorem dX0_dotsIn_12 : decode cX0_dotsIn 12 = .ok (.iload_n 2, 1) := by decide +kernel
theorem dX0_dotsIn_13 : decode cX0_dotsIn 13 = .ok (.iaload, 1) := by decide +kernel
theorem dX0_dotsIn_14 : decode cX0_dotsIn 14 = .ok (.invokestatic 49, 3) := by decide +kernel
theorem dX0_dotsIn_17 : decode cX0_dotsIn 17 = .ok (.iadd, 1) := by decide +kernel
theorem dX0_dotsIn_18 : decode cX0_dotsIn 18 = .ok (.istore_n 1, 1) := by decide +kernel
theorem dX0_dotsIn_19 : decode cX0_dotsIn 19 = .ok (.iinc 2 1, 3) := by decide +kernel
theorem dX0_dotsIn_22 : decode cX0_dotsIn 22 = .ok (.goto (-18), 3) := by decide +kernel
theorem dX0_dotsIn_25 : decode cX0_dotsIn 25 = .ok (.iload_n 1, 1) := by decide +kernel
theorem dX0_dotsIn_26 : decode cX0_dotsIn 26 = .ok (.ireturn, 1) := by decide +kernel
theorem dX0_otherDots_0 : decode cX0_otherDots 0 = .ok (.iconst 0, 1) := by decide +kernel
theorem dX0_otherDots_1 : decode cX0_otherDots 1 = .ok (.istore_n 1, 1) := by decide +kernel
theorem dX0_otherDots_2 : decode cX0_otherDots 2 = .ok (.iconst 0, 1) := by decide +kernel
theorem dX0_otherDots_3 : decode cX0_otherDots 3 = .ok (.istore_n 2, 1) := by decide +kernel
theorem dX0_otherDots_4 : decode cX0_otherDots 4 = .ok (.iload_n 2, 1) := by decide +kernel
theorem dX0_otherDots_5 : decode cX0_otherDots 5 = .ok (.bipush 40, 2) := by decide +kernel
theorem dX0_otherDots_7 : decode cX0_otherDots 7 = .ok (.if_icmp .ge 28, 3) := by decide +kernel
theorem dX0_otherDots_10 : decode cX0_otherDots 10 = .ok (.iload_n 1, 1) := by decide +kernel
theorem dX0_otherDots_11 : decode cX0_otherDots 11 = .ok (.aload_n 0, 1) := by decide +kernel
theorem dX0_otherDots_12 : decode cX0_otherDots 12 = .ok (.getfield 19, 3) := by decide +kernel
theorem dX0_otherDots_15 : decode cX0_otherDots 15 = .ok (.iload_n 2, 1) := by decide +kernel
theorem dX0_otherDots_16 : decode cX0_otherDots 16 = .ok (.iaload, 1) := by decide +kernel
theorem dX0_otherDots_17 : decode cX0_otherDots 17 = .ok (.aload_n 0, 1) := by decide +kernel
theorem dX0_otherDots_18 : decode cX0_otherDots 18 = .ok (.getfield 15, 3) := by decide +kernel
theorem dX0_otherDots_21 : decode cX0_otherDots 21 = .ok (.iload_n 2, 1) := by decide +kernel
theorem dX0_otherDots_22 : decode cX0_otherDots 22 = .ok (.iaload, 1) := by decide +kernel
theorem dX0_otherDots_23 : decode cX0_otherDots 23 = .ok (.ixor, 1) := by decide +kernel
theorem dX0_otherDots_24 : decode cX0_otherDots 24 = .ok (.invokestatic 49, 3) := by decide +kernel
theorem dX0_otherDots_27 : decode cX0_otherDots 27 = .ok (.iadd, 1) := by decide +kernel
theorem dX0_otherDots_28 : decode cX0_otherDots 28 = .ok (.istore_n 1, 1) := by decide +kernel
theorem dX0_otherDots_29 : decode cX0_otherDots 29 = .ok (.iinc 2 1, 3) := by decide +kernel
theorem dX0_otherDots_32 : decode cX0_otherDots 32 = .ok (.goto (-28), 3) := by decide +kernel
theorem dX0_otherDots_35 : decode cX0_otherDots 35 = .ok (.iload_n 1, 1) := by decide +kernel
theorem dX0_otherDots_36 : decode cX0_otherDots 36 = .ok (.ireturn, 1) := by decide +kernel
theorem dX0_knownAgainst_0 : decode cX0_knownAgainst 0 = .ok (.iconst 0, 1) := by decide +kernel
theorem dX0_knownAgainst_1 : decode cX0_knownAgainst 1 = .ok (.istore_n 2, 1) := by decide +kernel
theorem dX0_knownAgainst_2 : decode cX0_knownAgainst 2 = .ok (.iconst 0, 1) := by decide +kernel
theorem dX0_knownAgainst_3 : decode cX0_knownAgainst 3 = .ok (.istore_n 3, 1) := by decide +kernel
theorem dX0_knownAgainst_4 : decode cX0_knownAgainst 4 = .ok (.iload_n 3, 1) := by decide +kernel
theorem dX0_knownAgainst_5 : decode cX0_knownAgainst 5 = .ok (.bipush 40, 2) := by decide +kernel
theorem dX0_knownAgainst_7 : decode cX0_knownAgainst 7 = .ok (.if_icmp .ge 42, 3) := by decide +kernel
theorem dX0_knownAgainst_10 : decode cX0_knownAgainst 10 = .ok (.iload_n 3, 1) := by decide +kernel
theorem dX0_knownAgainst_11 : decode cX0_knownAgainst 11 = .ok (.aload_n 1, 1) := by decide +kernel
theorem dX0_knownAgainst_12 : decode cX0_knownAgainst 12 = .ok (.arraylength, 1) := by decide +kernel
theorem dX0_knownAgainst_13 : decode cX0_knownAgainst 13 = .ok (.if_icmp .ge 36, 3) := by decide +kernel
theorem dX0_knownAgainst_16 : decode cX0_knownAgainst 16 = .ok (.aload_n 1, 1) := by decide +kernel
theorem dX0_knownAgainst_17 : decode cX0_knownAgainst 17 = .ok (.iload_n 3, 1) := by decide +kernel
theorem dX0_knownAgainst_18 : decode cX0_knownAgainst 18 = .ok (.iaload, 1) := by decide +kernel
theorem dX0_knownAgainst_19 : decode cX0_knownAgainst 19 = .ok (.aload_n 0, 1) := by decide +kernel
theorem dX0_knownAgainst_20 : decode cX0_knownAgainst 20 = .ok (.getfield 15, 3) := by decide +kernel
theorem dX0_knownAgainst_23 : decode cX0_knownAgainst 23 = .ok (.iload_n 3, 1) := by decide +kernel
theorem dX0_knownAgainst_24 : decode cX0_knownAgainst 24 = .ok (.iaload, 1) := by decide +kernel
theorem dX0_knownAgainst_25 : decode cX0_knownAgainst 25 = .ok (.ixor, 1) := by decide +kernel
theorem dX0_knownAgainst_26 : decode cX0_knownAgainst 26 = .ok (.istore 4, 2) := by decide +kernel
theorem dX0_knownAgainst_28 : decode cX0_knownAgainst 28 = .ok (.iload_n 2, 1) := by decide +kernel
theorem dX0_knownAgainst_29 : decode cX0_knownAgainst 29 = .ok (.iload 4, 2) := by decide +kernel
theorem dX0_knownAgainst_31 : decode cX0_knownAgainst 31 = .ok (.aload_n 0, 1) := by decide +kernel
theorem dX0_knownAgainst_32 : decode cX0_knownAgainst 32 = .ok (.getfield 25, 3) := by decide +kernel
theorem dX0_knownAgainst_35 : decode cX0_knownAgainst 35 = .ok (.iload_n 3, 1) := by decide +kernel
theorem dX0_knownAgainst_36 : decode cX0_knownAgainst 36 = .ok (.iaload, 1) := by decide +kernel
theorem dX0_knownAgainst_37 : decode cX0_knownAgainst 37 = .ok (.iand, 1) := by decide +kernel
theorem dX0_knownAgainst_38 : decode cX0_knownAgainst 38 = .ok (.invokestatic 49, 3) := by decide +kernel
theorem dX0_knownAgainst_41 : decode cX0_knownAgainst 41 = .ok (.iadd, 1) := by decide +kernel
theorem dX0_knownAgainst_42 : decode cX0_knownAgainst 42 = .ok (.istore_n 2, 1) := by decide +kernel
theorem dX0_knownAgainst_43 : decode cX0_knownAgainst 43 = .ok (.iinc 3 1, 3) := by decide +kernel
theorem dX0_knownAgainst_46 : decode cX0_knownAgainst 46 = .ok (.goto (-42), 3) := by decide +kernel
theorem dX0_knownAgainst_49 : decode cX0_knownAgainst 49 = .ok (.iload_n 2, 1) := by decide +kernel
theorem dX0_knownAgainst_50 : decode cX0_knownAgainst 50 = .ok (.ireturn, 1) := by decide +kernel
theorem dX0_isStuck_0 : decode cX0_isStuck 0 = .ok (.aload_n 0, 1) := by decide +kernel
theorem dX0_isStuck_1 : decode cX0_isStuck 1 = .ok (.iload_n 1, 1) := by decide +kernel
theorem dX0_isStuck_2 : decode cX0_isStuck 2 = .ok (.iload_n 2, 1) := by decide +kernel
theorem dX0_isStuck_3 : decode cX0_isStuck 3 = .ok (.invokevirtual 59, 3) := by decide +kernel
theorem dX0_isStuck_6 : decode cX0_isStuck 6 = .ok (.ifCond .eq 20, 3) := by decide +kernel
theorem dX0_isStuck_9 : decode cX0_isStuck 9 = .ok (.aload_n 0, 1) := by decide +kernel
theorem dX0_isStuck_10 : decode cX0_isStuck 10 = .ok (.getfield 22, 3) := by decide +kernel
theorem dX0_isStuck_13 : decode cX0_isStuck 13 = .ok (.iload_n 1, 1) := by decide +kernel
theorem dX0_isStuck_14 : decode cX0_isStuck 14 = .ok (.iaload, 1) := by decide +kernel
theorem dX0_isStuck_15 : decode cX0_isStuck 15 = .ok (.iconst 1, 1) := by decide +kernel
theorem dX0_isStuck_16 : decode cX0_isStuck 16 = .ok (.iload_n 2, 1) := by decide +kernel
theorem dX0_isStuck_17 : decode cX0_isStuck 17 = .ok (.ishl, 1) := by decide +kernel
theorem dX0_isStuck_18 : decode cX0_isStuck 18 = .ok (.iand, 1) := by decide +kernel
theorem dX0_isStuck_19 : decode cX0_isStuck 19 = .ok (.ifCond .eq 7, 3) := by decide +kernel
theorem dX0_isStuck_22 : decode cX0_isStuck 22 = .ok (.iconst 1, 1) := by decide +kernel
theorem dX0_isStuck_23 : decode cX0_isStuck 23 = .ok (.goto 4, 3) := by decide +kernel
theorem dX0_isStuck_26 : decode cX0_isStuck 26 = .ok (.iconst 0, 1) := by decide +kernel
theorem dX0_isStuck_27 : decode cX0_isStuck 27 = .ok (.ireturn, 1) := by decide +kernel
theorem dX0_stick_0 : decode cX0_stick 0 = .ok (.aload_n 0, 1) := by decide +kernel
theorem dX0_stick_1 : decode cX0_stick 1 = .ok (.iload_n 1, 1) := by decide +kernel
theorem dX0_stick_2 : decode cX0_stick 2 = .ok (.iload_n 2, 1) := by decide +kernel
theorem dX0_stick_3 : decode cX0_stick 3 = .ok (.invokevirtual 59, 3) := by decide +kernel
theorem dX0_stick_6 : decode cX0_stick 6 = .ok (.ifCond .eq 15, 3) := by decide +kernel
theorem dX0_stick_9 : decode cX0_stick 9 = .ok (.aload_n 0, 1) := by decide +kernel
theorem dX0_stick_10 : decode cX0_stick 10 = .ok (.getfield 22, 3) := by decide +kernel
theorem dX0_stick_13 : decode cX0_stick 13 = .ok (.iload_n 1, 1) := by decide +kernel
theorem dX0_stick_14 : decode cX0_stick 14 = .ok (.dup2, 1) := by decide +kernel
theorem dX0_stick_15 : decode cX0_stick 15 = .ok (.iaload, 1) := by decide +kernel
theorem dX0_stick_16 : decode cX0_stick 16 = .ok (.iconst 1, 1) := by decide +kernel
theorem dX0_stick_17 : decode cX0_stick 17 = .ok (.iload_n 2, 1) := by decide +kernel
theorem dX0_stick_18 : decode cX0_stick 18 = .ok (.ishl, 1) := by decide +kernel
theorem dX0_stick_19 : decode cX0_stick 19 = .ok (.ior, 1) := by decide +kernel
theorem dX0_stick_20 : decode cX0_stick 20 = .ok (.iastore, 1) := by decide +kernel
theorem dX0_stick_21 : decode cX0_stick 21 = .ok (.return_, 1) := by decide +kernel
theorem dX0_makeKnown_0 : decode cX0_makeKnown 0 = .ok (.aload_n 0, 1) := by decide +kernel
theorem dX0_makeKnown_1 : decode cX0_makeKnown 1 = .ok (.iload_n 1, 1) := by decide +kernel
theorem dX0_makeKnown_2 : decode cX0_makeKnown 2 = .ok (.iload_n 2, 1) := by decide +kernel
theorem dX0_makeKnown_3 : decode cX0_makeKnown 3 = .ok (.invokevirtual 59, 3) := by decide +kernel
theorem dX0_makeKnown_6 : decode cX0_makeKnown 6 = .ok (.ifCond .eq 15, 3) := by decide +kernel
theorem dX0_makeKnown_9 : decode cX0_makeKnown 9 = .ok (.aload_n 0, 1) := by decide +kernel
theorem dX0_makeKnown_10 : decode cX0_makeKnown 10 = .ok (.getfield 25, 3) := by decide +kernel
theorem dX0_makeKnown_13 : decode cX0_makeKnown 13 = .ok (.iload_n 1, 1) := by decide +kernel
theorem dX0_makeKnown_14 : decode cX0_makeKnown 14 = .ok (.dup2, 1) := by decide +kernel
theorem dX0_makeKnown_15 : decode cX0_makeKnown 15 = .ok (.iaload, 1) := by decide +kernel
theorem dX0_makeKnown_16 : decode cX0_makeKnown 16 = .ok (.iconst 1, 1) := by decide +kernel
theorem dX0_makeKnown_17 : decode cX0_makeKnown 17 = .ok (.iload_n 2, 1) := by decide +kernel
theorem dX0_makeKnown_18 : decode cX0_makeKnown 18 = .ok (.ishl, 1) := by decide +kernel
theorem dX0_makeKnown_19 : decode cX0_makeKnown 19 = .ok (.ior, 1) := by decide +kernel
theorem dX0_makeKnown_20 : decode cX0_makeKnown 20 = .ok (.iastore, 1) := by decide +kernel
theorem dX0_makeKnown_21 : decode cX0_makeKnown 21 = .ok (.return_, 1) := by decide +kernel
theorem dX0_flip_0 : decode cX0_flip 0 = .ok (.aload_n 0, 1) := by decide +kernel
theorem dX0_flip_1 : decode cX0_flip 1 = .ok (.iload_n 1, 1) := by decide +kernel
theorem dX0_flip_2 : decode cX0_flip 2 = .ok (.iload_n 2, 1) := by decide +kernel
theorem dX0_flip_3 : decode cX0_flip 3 = .ok (.invokevirtual 59, 3) := by decide +kernel
theorem dX0_flip_6 : decode cX0_flip 6 = .ok (.ifCond .eq 30, 3) := by decide +kernel
theorem dX0_flip_9 : decode cX0_flip 9 = .ok (.aload_n 0, 1) := by decide +kernel
theorem dX0_flip_10 : decode cX0_flip 10 = .ok (.getfield 15, 3) := by decide +kernel
theorem dX0_flip_13 : decode cX0_flip 13 = .ok (.iload_n 1, 1) := by decide +kernel
theorem dX0_flip_14 : decode cX0_flip 14 = .ok (.dup2, 1) := by decide +kernel
theorem dX0_flip_15 : decode cX0_flip 15 = .ok (.iaload, 1) := by decide +kernel
theorem dX0_flip_16 : decode cX0_flip 16 = .ok (.iconst 1, 1) := by decide +kernel
theorem dX0_flip_17 : decode cX0_flip 17 = .ok (.iload_n 2, 1) := by decide +kernel
theorem dX0_flip_18 : decode cX0_flip 18 = .ok (.ishl, 1) := by decide +kernel
theorem dX0_flip_19 : decode cX0_flip 19 = .ok (.ixor, 1) := by decide +kernel
theorem dX0_flip_20 : decode cX0_flip 20 = .ok (.iastore, 1) := by decide +kernel
theorem dX0_flip_21 : decode cX0_flip 21 = .ok (.aload_n 0, 1) := by decide +kernel
theorem dX0_flip_22 : decode cX0_flip 22 = .ok (.getfield 28, 3) := by decide +kernel
theorem dX0_flip_25 : decode cX0_flip 25 = .ok (.iload_n 1, 1) := by decide +kernel
theorem dX0_flip_26 : decode cX0_flip 26 = .ok (.bipush 7, 2) := by decide +kernel
theorem dX0_flip_28 : decode cX0_flip 28 = .ok (.imul, 1) := by decide +kernel
theorem dX0_flip_29 : decode cX0_flip 29 = .ok (.iload_n 2, 1) := by decide +kernel
theorem dX0_flip_30 : decode cX0_flip 30 = .ok (.iadd, 1) := by decide +kernel
theorem dX0_flip_31 : decode cX0_flip 31 = .ok (.dup2, 1) := by decide +kernel
theorem dX0_flip_32 : decode cX0_flip 32 = .ok (.iaload, 1) := by decide +kernel
theorem dX0_flip_33 : decode cX0_flip 33 = .ok (.iconst 1, 1) := by decide +kernel
theorem dX0_flip_34 : decode cX0_flip 34 = .ok (.iadd, 1) := by decide +kernel
theorem dX0_flip_35 : decode cX0_flip 35 = .ok (.iastore, 1) := by decide +kernel
theorem dX0_flip_36 : decode cX0_flip 36 = .ok (.return_, 1) := by decide +kernel
theorem dX0_flipsOf_0 : decode cX0_flipsOf 0 = .ok (.aload_n 0, 1) := by decide +kernel
theorem dX0_flipsOf_1 : decode cX0_flipsOf 1 = .ok (.iload_n 1, 1) := by decide +kernel
theorem dX0_flipsOf_2 : decode cX0_flipsOf 2 = .ok (.iload_n 2, 1) := by decide +kernel
theorem dX0_flipsOf_3 : decode cX0_flipsOf 3 = .ok (.invokevirtual 59, 3) := by decide +kernel
theorem dX0_flipsOf_6 : decode cX0_flipsOf 6 = .ok (.ifCond .eq 17, 3) := by decide +kernel
theorem dX0_flipsOf_9 : decode cX0_flipsOf 9 = .ok (.aload_n 0, 1) := by decide +kernel
theorem dX0_flipsOf_10 : decode cX0_flipsOf 10 = .ok (.getfield 28, 3) := by decide +kernel
theorem dX0_flipsOf_13 : decode cX0_flipsOf 13 = .ok (.iload_n 1, 1) := by decide +kernel
theorem dX0_flipsOf_14 : decode cX0_flipsOf 14 = .ok (.bipush 7, 2) := by decide +kernel
theorem dX0_flipsOf_16 : decode cX0_flipsOf 16 = .ok (.imul, 1) := by decide +kernel
theorem dX0_flipsOf_17 : decode cX0_flipsOf 17 = .ok (.iload_n 2, 1) := by decide +kernel
theorem dX0_flipsOf_18 : decode cX0_flipsOf 18 = .ok (.iadd, 1) := by decide +kernel
theorem dX0_flipsOf_19 : decode cX0_flipsOf 19 = .ok (.iaload, 1) := by decide +kernel
theorem dX0_flipsOf_20 : decode cX0_flipsOf 20 = .ok (.goto 4, 3) := by decide +kernel
theorem dX0_flipsOf_23 : decode cX0_flipsOf 23 = .ok (.iconst 0, 1) := by decide +kernel
theorem dX0_flipsOf_24 : decode cX0_flipsOf 24 = .ok (.ireturn, 1) := by decide +kernel
theorem dX0_renewDot_0 : decode cX0_renewDot 0 = .ok (.aload_n 0, 1) := by decide +kernel
theorem dX0_renewDot_1 : decode cX0_renewDot 1 = .ok (.iload_n 1, 1) := by decide +kernel
theorem dX0_renewDot_2 : decode cX0_renewDot 2 = .ok (.iload_n 2, 1) := by decide +kernel
theorem dX0_renewDot_3 : decode cX0_renewDot 3 = .ok (.invokevirtual 59, 3) := by decide +kernel
theorem dX0_renewDot_6 : decode cX0_renewDot 6 = .ok (.ifCond .eq 43, 3) := by decide +kernel
theorem dX0_renewDot_9 : decode cX0_renewDot 9 = .ok (.aload_n 0, 1) := by decide +kernel
theorem dX0_renewDot_10 : decode cX0_renewDot 10 = .ok (.getfield 22, 3) := by decide +kernel
theorem dX0_renewDot_13 : decode cX0_renewDot 13 = .ok (.iload_n 1, 1) := by decide +kernel
theorem dX0_renewDot_14 : decode cX0_renewDot 14 = .ok (.dup2, 1) := by decide +kernel
theorem dX0_renewDot_15 : decode cX0_renewDot 15 = .ok (.iaload, 1) := by decide +kernel
theorem dX0_renewDot_16 : decode cX0_renewDot 16 = .ok (.iconst 1, 1) := by decide +kernel
theorem dX0_renewDot_17 : decode cX0_renewDot 17 = .ok (.iload_n 2, 1) := by decide +kernel
theorem dX0_renewDot_18 : decode cX0_renewDot 18 = .ok (.ishl, 1) := by decide +kernel
theorem dX0_renewDot_19 : decode cX0_renewDot 19 = .ok (.iconst (-1), 1) := by decide +kernel
theorem dX0_renewDot_20 : decode cX0_renewDot 20 = .ok (.ixor, 1) := by decide +kernel
theorem dX0_renewDot_21 : decode cX0_renewDot 21 = .ok (.iand, 1) := by decide +kernel
theorem dX0_renewDot_22 : decode cX0_renewDot 22 = .ok (.iastore, 1) := by decide +kernel
theorem dX0_renewDot_23 : decode cX0_renewDot 23 = .ok (.aload_n 0, 1) := by decide +kernel
theorem dX0_renewDot_24 : decode cX0_renewDot 24 = .ok (.getfield 25, 3) := by decide +kernel
theorem dX0_renewDot_27 : decode cX0_renewDot 27 = .ok (.iload_n 1, 1) := by decide +kernel
theorem dX0_renewDot_28 : decode cX0_renewDot 28 = .ok (.dup2, 1) := by decide +kernel
theorem dX0_renewDot_29 : decode cX0_renewDot 29 = .ok (.iaload, 1) := by decide +kernel
theorem dX0_renewDot_30 : decode cX0_renewDot 30 = .ok (.iconst 1, 1) := by decide +kernel
theorem dX0_renewDot_31 : decode cX0_renewDot 31 = .ok (.iload_n 2, 1) := by decide +kernel
theorem dX0_renewDot_32 : decode cX0_renewDot 32 = .ok (.ishl, 1) := by decide +kernel
theorem dX0_renewDot_33 : decode cX0_renewDot 33 = .ok (.iconst (-1), 1) := by decide +kernel
theorem dX0_renewDot_34 : decode cX0_renewDot 34 = .ok (.ixor, 1) := by decide +kernel
theorem dX0_renewDot_35 : decode cX0_renewDot 35 = .ok (.iand, 1) := by decide +kernel
theorem dX0_renewDot_36 : decode cX0_renewDot 36 = .ok (.iastore, 1) := by decide +kernel
theorem dX0_renewDot_37 : decode cX0_renewDot 37 = .ok (.aload_n 0, 1) := by decide +kernel
theorem dX0_renewDot_38 : decode cX0_renewDot 38 = .ok (.getfield 28, 3) := by decide +kernel
theorem dX0_renewDot_41 : decode cX0_renewDot 41 = .ok (.iload_n 1, 1) := by decide +kernel
theorem dX0_renewDot_42 : decode cX0_renewDot 42 = .ok (.bipush 7, 2) := by decide +kernel
theorem dX0_renewDot_44 : decode cX0_renewDot 44 = .ok (.imul, 1) := by decide +kernel
theorem dX0_renewDot_45 : decode cX0_renewDot 45 = .ok (.iload_n 2, 1) := by decide +kernel
theorem dX0_renewDot_46 : decode cX0_renewDot 46 = .ok (.iadd, 1) := by decide +kernel
theorem dX0_renewDot_47 : decode cX0_renewDot 47 = .ok (.iconst 0, 1) := by decide +kernel
theorem dX0_renewDot_48 : decode cX0_renewDot 48 = .ok (.iastore, 1) := by decide +kernel
theorem dX0_renewDot_49 : decode cX0_renewDot 49 = .ok (.return_, 1) := by decide +kernel
theorem dX1_init_0 : decode cX1_init 0 = .ok (.aload_n 0, 1) := by decide +kernel
theorem dX1_init_1 : decode cX1_init 1 = .ok (.invokespecial 3, 3) := by decide +kernel
theorem dX1_init_4 : decode cX1_init 4 = .ok (.aload_n 0, 1) := by decide +kernel
theorem dX1_init_5 : decode cX1_init 5 = .ok (.bipush 40, 2) := by decide +kernel
theorem dX1_init_7 : decode cX1_init 7 = .ok (.newarray .int, 2) := by decide +kernel
theorem dX1_init_9 : decode cX1_init 9 = .ok (.putfield 9, 3) := by decide +kernel
theorem dX1_init_12 : decode cX1_init 12 = .ok (.return_, 1) := by decide +kernel
theorem dX1_passSecond_0 : decode cX1_passSecond 0 = .ok (.aload_n 1, 1) := by decide +kernel
theorem dX1_passSecond_1 : decode cX1_passSecond 1 = .ok (.getfield 15, 3) := by decide +kernel
theorem dX1_passSecond_4 : decode cX1_passSecond 4 = .ok (.iconst 0, 1) := by decide +kernel
theorem dX1_passSecond_5 : decode cX1_passSecond 5 = .ok (.iaload, 1) := by decide +kernel
theorem dX1_passSecond_6 : decode cX1_passSecond 6 = .ok (.istore_n 2, 1) := by decide +kernel
theorem dX1_passSecond_7 : decode cX1_passSecond 7 = .ok (.iload_n 2, 1) := by decide +kernel
theorem dX1_passSecond_8 : decode cX1_passSecond 8 = .ok (.istore_n 3, 1) := by decide +kernel
theorem dX1_passSecond_9 : decode cX1_passSecond 9 = .ok (.aload_n 0, 1) := by decide +kernel
theorem dX1_passSecond_10 : decode cX1_passSecond 10 = .ok (.aload_n 1, 1) := by decide +kernel
theorem dX1_passSecond_11 : decode cX1_passSecond 11 = .ok (.getfield 20, 3) := by decide +kernel
theorem dX1_passSecond_14 : decode cX1_passSecond 14 = .ok (.aload_n 1, 1) := by decide +kernel
theorem dX1_passSecond_15 : decode cX1_passSecond 15 = .ok (.getfield 15, 3) := by decide +kernel
theorem dX1_passSecond_18 : decode cX1_passSecond 18 = .ok (.iconst 1, 1) := by decide +kernel
theorem dX1_passSecond_19 : decode cX1_passSecond 19 = .ok (.iaload, 1) := by decide +kernel
theorem dX1_passSecond_20 : decode cX1_passSecond 20 = .ok (.invokevirtual 24, 3) := by decide +kernel
theorem dX1_passSecond_23 : decode cX1_passSecond 23 = .ok (.iconst 0, 1) := by decide +kernel
theorem dX1_passSecond_24 : decode cX1_passSecond 24 = .ok (.istore 4, 2) := by decide +kernel
theorem dX1_passSecond_26 : decode cX1_passSecond 26 = .ok (.iload 4, 2) := by decide +kernel
theorem dX1_passSecond_28 : decode cX1_passSecond 28 = .ok (.bipush 40, 2) := by decide +kernel
theorem dX1_passSecond_30 : decode cX1_passSecond 30 = .ok (.if_icmp .ge 46, 3) := by decide +kernel
theorem dX1_passSecond_33 : decode cX1_passSecond 33 = .ok (.iload_n 3, 1) := by decide +kernel
theorem dX1_passSecond_34 : decode cX1_passSecond 34 = .ok (.iconst 1, 1) := by decide +kernel
theorem dX1_passSecond_35 : decode cX1_passSecond 35 = .ok (.if_icmp .le 41, 3) := by decide +kernel
theorem dX1_passSecond_38 : decode cX1_passSecond 38 = .ok (.aload_n 0, 1) := by decide +kernel
theorem dX1_passSecond_39 : decode cX1_passSecond 39 = .ok (.getfield 9, 3) := by decide +kernel
theorem dX1_passSecond_42 : decode cX1_passSecond 42 = .ok (.iload 4, 2) := by decide +kernel
theorem dX1_passSecond_44 : decode cX1_passSecond 44 = .ok (.iaload, 1) := by decide +kernel
theorem dX1_passSecond_45 : decode cX1_passSecond 45 = .ok (.istore 5, 2) := by decide +kernel
theorem dX1_passSecond_47 : decode cX1_passSecond 47 = .ok (.aload_n 1, 1) := by decide +kernel
theorem dX1_passSecond_48 : decode cX1_passSecond 48 = .ok (.getfield 20, 3) := by decide +kernel
theorem dX1_passSecond_51 : decode cX1_passSecond 51 = .ok (.iload 5, 2) := by decide +kernel
theorem dX1_passSecond_53 : decode cX1_passSecond 53 = .ok (.invokevirtual 28, 3) := by decide +kernel
theorem dX1_passSecond_56 : decode cX1_passSecond 56 = .ok (.ifCond .eq 14, 3) := by decide +kernel
theorem dX1_passSecond_59 : decode cX1_passSecond 59 = .ok (.aload_n 0, 1) := by decide +kernel
theorem dX1_passSecond_60 : decode cX1_passSecond 60 = .ok (.aload_n 1, 1) := by decide +kernel
theorem dX1_passSecond_61 : decode cX1_passSecond 61 = .ok (.iload 5, 2) := by decide +kernel
theorem dX1_passSecond_63 : decode cX1_passSecond 63 = .ok (.iload_n 3, 1) := by decide +kernel
theorem dX1_passSecond_64 : decode cX1_passSecond 64 = .ok (.iconst 1, 1) := by decide +kernel
theorem dX1_passSecond_65 : decode cX1_passSecond 65 = .ok (.isub, 1) := by decide +kernel
theorem dX1_passSecond_66 : decode cX1_passSecond 66 = .ok (.invokevirtual 34, 3) := by decide +kernel
theorem dX1_passSecond_69 : decode cX1_passSecond 69 = .ok (.istore_n 3, 1) := by decide +kernel
theorem dX1_passSecond_70 : decode cX1_passSecond 70 = .ok (.iinc 4 1, 3) := by decide +kernel
theorem dX1_passSecond_73 : decode cX1_passSecond 73 = .ok (.goto (-47), 3) := by decide +kernel
theorem dX1_passSecond_76 : decode cX1_passSecond 76 = .ok (.aload_n 1, 1) := by decide +kernel
theorem dX1_passSecond_77 : decode cX1_passSecond 77 = .ok (.getfield 38, 3) := by decide +kernel
theorem dX1_passSecond_80 : decode cX1_passSecond 80 = .ok (.iload_n 2, 1) := by decide +kernel
theorem dX1_passSecond_81 : decode cX1_passSecond 81 = .ok (.iload_n 3, 1) := by decide +kernel
theorem dX1_passSecond_82 : decode cX1_passSecond 82 = .ok (.isub, 1) := by decide +kernel
theorem dX1_passSecond_83 : decode cX1_passSecond 83 = .ok (.invokevirtual 42, 3) := by decide +kernel
theorem dX1_passSecond_86 : decode cX1_passSecond 86 = .ok (.return_, 1) := by decide +kernel
theorem dX1_flipColumn_0 : decode cX1_flipColumn 0 = .ok (.iload_n 3, 1) := by decide +kernel
theorem dX1_flipColumn_1 : decode cX1_flipColumn 1 = .ok (.istore 4, 2) := by decide +kernel
theorem dX1_flipColumn_3 : decode cX1_flipColumn 3 = .ok (.aload_n 1, 1) := by decide +kernel
theorem dX1_flipColumn_4 : decode cX1_flipColumn 4 = .ok (.getfield 20, 3) := by decide +kernel
theorem dX1_flipColumn_7 : decode cX1_flipColumn 7 = .ok (.iload_n 2, 1) := by decide +kernel
theorem dX1_flipColumn_8 : decode cX1_flipColumn 8 = .ok (.invokevirtual 28, 3) := by decide +kernel
theorem dX1_flipColumn_11 : decode cX1_flipColumn 11 = .ok (.istore 5, 2) := by decide +kernel
theorem dX1_flipColumn_13 : decode cX1_flipColumn 13 = .ok (.iconst 0, 1) := by decide +kernel
theorem dX1_flipColumn_14 : decode cX1_flipColumn 14 = .ok (.istore 6, 2) := by decide +kernel
theorem dX1_flipColumn_16 : decode cX1_flipColumn 16 = .ok (.iload 6, 2) := by decide +kernel
theorem dX1_flipColumn_18 : decode cX1_flipColumn 18 = .ok (.bipush 7, 2) := by decide +kernel
theorem dX1_flipColumn_20 : decode cX1_flipColumn 20 = .ok (.if_icmp .ge 34, 3) := by decide +kernel
theorem dX1_flipColumn_23 : decode cX1_flipColumn 23 = .ok (.iload 4, 2) := by decide +kernel
theorem dX1_flipColumn_25 : decode cX1_flipColumn 25 = .ok (.ifCond .le 29, 3) := by decide +kernel
theorem dX1_flipColumn_28 : decode cX1_flipColumn 28 = .ok (.iload 5, 2) := by decide +kernel
theorem dX1_flipColumn_30 : decode cX1_flipColumn 30 = .ok (.iconst 1, 1) := by decide +kernel
theorem dX1_flipColumn_31 : decode cX1_flipColumn 31 = .ok (.iload 6, 2) := by decide +kernel
theorem dX1_flipColumn_33 : decode cX1_flipColumn 33 = .ok (.ishl, 1) := by decide +kernel
theorem dX1_flipColumn_34 : decode cX1_flipColumn 34 = .ok (.iand, 1) := by decide +kernel
theorem dX1_flipColumn_35 : decode cX1_flipColumn 35 = .ok (.ifCond .eq 13, 3) := by decide +kernel
theorem dX1_flipColumn_38 : decode cX1_flipColumn 38 = .ok (.aload_n 1, 1) := by decide +kernel
theorem dX1_flipColumn_39 : decode cX1_flipColumn 39 = .ok (.iload_n 2, 1) := by decide +kernel
theorem dX1_flipColumn_40 : decode cX1_flipColumn 40 = .ok (.iload 6, 2) := by decide +kernel
theorem dX1_flipColumn_42 : decode cX1_flipColumn 42 = .ok (.invokevirtual 48, 3) := by decide +kernel
theorem dX1_flipColumn_45 : decode cX1_flipColumn 45 = .ok (.iinc 4 (-1), 3) := by decide +kernel
theorem dX1_flipColumn_48 : decode cX1_flipColumn 48 = .ok (.iinc 6 1, 3) := by decide +kernel
theorem dX1_flipColumn_51 : decode cX1_flipColumn 51 = .ok (.goto (-35), 3) := by decide +kernel
theorem dX1_flipColumn_54 : decode cX1_flipColumn 54 = .ok (.iload 4, 2) := by decide +kernel
theorem dX1_flipColumn_56 : decode cX1_flipColumn 56 = .ok (.ireturn, 1) := by decide +kernel
theorem dX1_arrange_0 : decode cX1_arrange 0 = .ok (.iload_n 2, 1) := by decide +kernel
theorem dX1_arrange_1 : decode cX1_arrange 1 = .ok (.iconst 2, 1) := by decide +kernel
theorem dX1_arrange_2 : decode cX1_arrange 2 = .ok (.if_icmp .ne 9, 3) := by decide +kernel
theorem dX1_arrange_5 : decode cX1_arrange 5 = .ok (.aload_n 0, 1) := by decide +kernel
theorem dX1_arrange_6 : decode cX1_arrange 6 = .ok (.aload_n 1, 1) := by decide +kernel
theorem dX1_arrange_7 : decode cX1_arrange 7 = .ok (.invokevirtual 52, 3) := by decide +kernel
theorem dX1_arrange_10 : decode cX1_arrange 10 = .ok (.return_, 1) := by decide +kernel
theorem dX1_arrange_11 : decode cX1_arrange 11 = .ok (.iconst 0, 1) := by decide +kernel
theorem dX1_arrange_12 : decode cX1_arrange 12 = .ok (.istore_n 3, 1) := by decide +kernel
theorem dX1_arrange_13 : decode cX1_arrange 13 = .ok (.iload_n 3, 1) := by decide +kernel
theorem dX1_arrange_14 : decode cX1_arrange 14 = .ok (.bipush 40, 2) := by decide +kernel
theorem dX1_arrange_16 : decode cX1_arrange 16 = .ok (.if_icmp .ge 28, 3) := by decide +kernel
theorem dX1_arrange_19 : decode cX1_arrange 19 = .ok (.aload_n 0, 1) := by decide +kernel
theorem dX1_arrange_20 : decode cX1_arrange 20 = .ok (.getfield 9, 3) := by decide +kernel
theorem dX1_arrange_23 : decode cX1_arrange 23 = .ok (.iload_n 3, 1) := by decide +kernel
theorem dX1_arrange_24 : decode cX1_arrange 24 = .ok (.iload_n 2, 1) := by decide +kernel
theorem dX1_arrange_25 : decode cX1_arrange 25 = .ok (.iconst 1, 1) := by decide +kernel
theorem dX1_arrange_26 : decode cX1_arrange 26 = .ok (.if_icmp .ne 10, 3) := by decide +kernel
theorem dX1_arrange_29 : decode cX1_arrange 29 = .ok (.bipush 39, 2) := by decide +kernel
theorem dX1_arrange_31 : decode cX1_arrange 31 = .ok (.iload_n 3, 1) := by decide +kernel
theorem dX1_arrange_32 : decode cX1_arrange 32 = .ok (.isub, 1) := by decide +kernel
theorem dX1_arrange_33 : decode cX1_arrange 33 = .ok (.goto 4, 3) := by decide +kernel
theorem dX1_arrange_36 : decode cX1_arrange 36 = .ok (.iload_n 3, 1) := by decide +kernel
theorem dX1_arrange_37 : decode cX1_arrange 37 = .ok (.iastore, 1) := by decide +kernel
theorem dX1_arrange_38 : decode cX1_arrange 38 = .ok (.iinc 3 1, 3) := by decide +kernel
theorem dX1_arrange_41 : decode cX1_arrange 41 = .ok (.goto (-28), 3) := by decide +kernel
theorem dX1_arrange_44 : decode cX1_arrange 44 = .ok (.return_, 1) := by decide +kernel
theorem dX1_arrangeByDueDots_0 : decode cX1_arrangeByDueDots 0 = .ok (.iconst 0, 1) := by decide +kernel
theorem dX1_arrangeByDueDots_1 : decode cX1_arrangeByDueDots 1 = .ok (.istore_n 2, 1) := by decide +kernel
theorem dX1_arrangeByDueDots_2 : decode cX1_arrangeByDueDots 2 = .ok (.bipush 7, 2) := by decide +kernel
theorem dX1_arrangeByDueDots_4 : decode cX1_arrangeByDueDots 4 = .ok (.istore_n 3, 1) := by decide +kernel
theorem dX1_arrangeByDueDots_5 : decode cX1_arrangeByDueDots 5 = .ok (.iload_n 3, 1) := by decide +kernel
theorem dX1_arrangeByDueDots_6 : decode cX1_arrangeByDueDots 6 = .ok (.ifCond .lt 67, 3) := by decide +kernel
theorem dX1_arrangeByDueDots_9 : decode cX1_arrangeByDueDots 9 = .ok (.iconst 0, 1) := by decide +kernel
theorem dX1_arrangeByDueDots_10 : decode cX1_arrangeByDueDots 10 = .ok (.istore 4, 2) := by decide +kernel
theorem dX1_arrangeByDueDots_12 : decode cX1_arrangeByDueDots 12 = .ok (.iload 4, 2) := by decide +kernel
theorem dX1_arrangeByDueDots_14 : decode cX1_arrangeByDueDots 14 = .ok (.bipush 40, 2) := by decide +kernel
theorem dX1_arrangeByDueDots_16 : decode cX1_arrangeByDueDots 16 = .ok (.if_icmp .ge 51, 3) := by decide +kernel
theorem dX1_arrangeByDueDots_19 : decode cX1_arrangeByDueDots 19 = .ok (.aload_n 1, 1) := by decide +kernel
theorem dX1_arrangeByDueDots_20 : decode cX1_arrangeByDueDots 20 = .ok (.iload 4, 2) := by decide +kernel
theorem dX1_arrangeByDueDots_22 : decode cX1_arrangeByDueDots 22 = .ok (.invokevirtual 28, 3) := by decide +kernel
theorem dX1_arrangeByDueDots_25 : decode cX1_arrangeByDueDots 25 = .ok (.invokestatic 56, 3) := by decide +kernel
theorem dX1_arrangeByDueDots_28 : decode cX1_arrangeByDueDots 28 = .ok (.iload_n 3, 1) := by decide +kernel
theorem dX1_arrangeByDueDots_29 : decode cX1_arrangeByDueDots 29 = .ok (.if_icmp .ne 7, 3) := by decide +kernel
theorem dX1_arrangeByDueDots_32 : decode cX1_arrangeByDueDots 32 = .ok (.iconst 1, 1) := by decide +kernel
theorem dX1_arrangeByDueDots_33 : decode cX1_arrangeByDueDots 33 = .ok (.goto 4, 3) := by decide +kernel
theorem dX1_arrangeByDueDots_36 : decode cX1_arrangeByDueDots 36 = .ok (.iconst 0, 1) := by decide +kernel
theorem dX1_arrangeByDueDots_37 : decode cX1_arrangeByDueDots 37 = .ok (.istore 5, 2) := by decide +kernel
theorem dX1_arrangeByDueDots_39 : decode cX1_arrangeByDueDots 39 = .ok (.iload 5, 2) := by decide +kernel
theorem dX1_arrangeByDueDots_41 : decode cX1_arrangeByDueDots 41 = .ok (.ifCond .eq 20, 3) := by decide +kernel
theorem dX1_arrangeByDueDots_44 : decode cX1_arrangeByDueDots 44 = .ok (.iload_n 2, 1) := by decide +kernel
theorem dX1_arrangeByDueDots_45 : decode cX1_arrangeByDueDots 45 = .ok (.bipush 40, 2) := by decide +kernel
theorem dX1_arrangeByDueDots_47 : decode cX1_arrangeByDueDots 47 = .ok (.if_icmp .ge 14, 3) := by decide +kernel
theorem dX1_arrangeByDueDots_50 : decode cX1_arrangeByDueDots 50 = .ok (.aload_n 0, 1) := by decide +kernel
theorem dX1_arrangeByDueDots_51 : decode cX1_arrangeByDueDots 51 = .ok (.getfield 9, 3) := by decide +kernel
theorem dX1_arrangeByDueDots_54 : decode cX1_arrangeByDueDots 54 = .ok (.iload_n 2, 1) := by decide +kernel
theorem dX1_arrangeByDueDots_55 : decode cX1_arrangeByDueDots 55 = .ok (.iload 4, 2) := by decide +kernel
theorem dX1_arrangeByDueDots_57 : decode cX1_arrangeByDueDots 57 = .ok (.iastore, 1) := by decide +kernel
theorem dX1_arrangeByDueDots_58 : decode cX1_arrangeByDueDots 58 = .ok (.iinc 2 1, 3) := by decide +kernel
theorem dX1_arrangeByDueDots_61 : decode cX1_arrangeByDueDots 61 = .ok (.iinc 4 1, 3) := by decide +kernel
theorem dX1_arrangeByDueDots_64 : decode cX1_arrangeByDueDots 64 = .ok (.goto (-52), 3) := by decide +kernel
theorem dX1_arrangeByDueDots_67 : decode cX1_arrangeByDueDots 67 = .ok (.iinc 3 (-1), 3) := by decide +kernel
theorem dX1_arrangeByDueDots_70 : decode cX1_arrangeByDueDots 70 = .ok (.goto (-65), 3) := by decide +kernel
theorem dX1_arrangeByDueDots_73 : decode cX1_arrangeByDueDots 73 = .ok (.return_, 1) := by decide +kernel
theorem dX2_init_0 : decode cX2_init 0 = .ok (.aload_n 0, 1) := by decide +kernel
theorem dX2_init_1 : decode cX2_init 1 = .ok (.invokespecial 3, 3) := by decide +kernel
theorem dX2_init_4 : decode cX2_init 4 = .ok (.aload_n 0, 1) := by decide +kernel
theorem dX2_init_5 : decode cX2_init 5 = .ok (.bipush 6, 2) := by decide +kernel
theorem dX2_init_7 : decode cX2_init 7 = .ok (.anewarray 9, 3) := by decide +kernel
theorem dX2_init_10 : decode cX2_init 10 = .ok (.putfield 11, 3) := by decide +kernel
theorem dX2_init_13 : decode cX2_init 13 = .ok (.aload_n 0, 1) := by decide +kernel
theorem dX2_init_14 : decode cX2_init 14 = .ok (.iconst 0, 1) := by decide +kernel
theorem dX2_init_15 : decode cX2_init 15 = .ok (.putfield 17, 3) := by decide +kernel
theorem dX2_init_18 : decode cX2_init 18 = .ok (.aload_n 0, 1) := by decide +kernel
theorem dX2_init_19 : decode cX2_init 19 = .ok (.iconst 0, 1) := by decide +kernel
theorem dX2_init_20 : decode cX2_init 20 = .ok (.putfield 21, 3) := by decide +kernel
theorem dX2_init_23 : decode cX2_init 23 = .ok (.iconst 0, 1) := by decide +kernel
theorem dX2_init_24 : decode cX2_init 24 = .ok (.istore_n 1, 1) := by decide +kernel
theorem dX2_init_25 : decode cX2_init 25 = .ok (.iload_n 1, 1) := by decide +kernel
theorem dX2_init_26 : decode cX2_init 26 = .ok (.bipush 6, 2) := by decide +kernel
theorem dX2_init_28 : decode cX2_init 28 = .ok (.if_icmp .ge 22, 3) := by decide +kernel
theorem dX2_init_31 : decode cX2_init 31 = .ok (.aload_n 0, 1) := by decide +kernel
theorem dX2_init_32 : decode cX2_init 32 = .ok (.getfield 11, 3) := by decide +kernel
theorem dX2_init_35 : decode cX2_init 35 = .ok (.iload_n 1, 1) := by decide +kernel
theorem dX2_init_36 : decode cX2_init 36 = .ok (.new 9, 3) := by decide +kernel
theorem dX2_init_39 : decode cX2_init 39 = .ok (.dup, 1) := by decide +kernel
theorem dX2_init_40 : decode cX2_init 40 = .ok (.invokespecial 24, 3) := by decide +kernel
theorem dX2_init_43 : decode cX2_init 43 = .ok (.aastore, 1) := by decide +kernel
theorem dX2_init_44 : decode cX2_init 44 = .ok (.iinc 1 1, 3) := by decide +kernel
theorem dX2_init_47 : decode cX2_init 47 = .ok (.goto (-22), 3) := by decide +kernel
theorem dX2_init_50 : decode cX2_init 50 = .ok (.return_, 1) := by decide +kernel
theorem dX2_keep_0 : decode cX2_keep 0 = .ok (.aload_n 0, 1) := by decide +kernel
theorem dX2_keep_1 : decode cX2_keep 1 = .ok (.aload_n 0, 1) := by decide +kernel
theorem dX2_keep_2 : decode cX2_keep 2 = .ok (.getfield 21, 3) := by decide +kernel
theorem dX2_keep_5 : decode cX2_keep 5 = .ok (.invokevirtual 25, 3) := by decide +kernel
theorem dX2_keep_8 : decode cX2_keep 8 = .ok (.astore_n 2, 1) := by decide +kernel
theorem dX2_keep_9 : decode cX2_keep 9 = .ok (.aload_n 2, 1) := by decide +kernel
theorem dX2_keep_10 : decode cX2_keep 10 = .ok (.ifnull 8, 3) := by decide +kernel
theorem dX2_keep_13 : decode cX2_keep 13 = .ok (.aload_n 2, 1) := by decide +kernel
theorem dX2_keep_14 : decode cX2_keep 14 = .ok (.aload_n 1, 1) := by decide +kernel
theorem dX2_keep_15 : decode cX2_keep 15 = .ok (.invokevirtual 29, 3) := by decide +kernel
theorem dX2_keep_18 : decode cX2_keep 18 = .ok (.aload_n 0, 1) := by decide +kernel
theorem dX2_keep_19 : decode cX2_keep 19 = .ok (.getfield 21, 3) := by decide +kernel
theorem dX2_keep_22 : decode cX2_keep 22 = .ok (.bipush 6, 2) := by decide +kernel
theorem dX2_keep_24 : decode cX2_keep 24 = .ok (.if_icmp .ge 16, 3) := by decide +kernel
theorem dX2_keep_27 : decode cX2_keep 27 = .ok (.aload_n 0, 1) := by decide +kernel
theorem dX2_keep_28 : decode cX2_keep 28 = .ok (.dup, 1) := by decide +kernel
theorem dX2_keep_29 : decode cX2_keep 29 = .ok (.getfield 21, 3) := by decide +kernel
theorem dX2_keep_32 : decode cX2_keep 32 = .ok (.iconst 1, 1) := by decide +kernel
theorem dX2_keep_33 : decode cX2_keep 33 = .ok (.iadd, 1) := by decide +kernel
theorem dX2_keep_34 : decode cX2_keep 34 = .ok (.putfield 21, 3) := by decide +kernel
theorem dX2_keep_37 : decode cX2_keep 37 = .ok (.goto 18, 3) := by decide +kernel
theorem dX2_keep_40 : decode cX2_keep 40 = .ok (.aload_n 0, 1) := by decide +kernel
theorem dX2_keep_41 : decode cX2_keep 41 = .ok (.aload_n 0, 1) := by decide +kernel
theorem dX2_keep_42 : decode cX2_keep 42 = .ok (.getfield 17, 3) := by decide +kernel
theorem dX2_keep_45 : decode cX2_keep 45 = .ok (.iconst 1, 1) := by decide +kernel
theorem dX2_keep_46 : decode cX2_keep 46 = .ok (.iadd, 1) := by decide +kernel
theorem dX2_keep_47 : decode cX2_keep 47 = .ok (.bipush 6, 2) := by decide +kernel
theorem dX2_keep_49 : decode cX2_keep 49 = .ok (.invokestatic 33, 3) := by decide +kernel
theorem dX2_keep_52 : decode cX2_keep 52 = .ok (.putfield 17, 3) := by decide +kernel
theorem dX2_keep_55 : decode cX2_keep 55 = .ok (.return_, 1) := by decide +kernel
theorem dX2_restore_0 : decode cX2_restore 0 = .ok (.aload_n 0, 1) := by decide +kernel
theorem dX2_restore_1 : decode cX2_restore 1 = .ok (.getfield 21, 3) := by decide +kernel
theorem dX2_restore_4 : decode cX2_restore 4 = .ok (.ifCond .gt 4, 3) := by decide +kernel
theorem dX2_restore_7 : decode cX2_restore 7 = .ok (.return_, 1) := by decide +kernel
theorem dX2_restore_8 : decode cX2_restore 8 = .ok (.aload_n 0, 1) := by decide +kernel
theorem dX2_restore_9 : decode cX2_restore 9 = .ok (.dup, 1) := by decide +kernel
theorem dX2_restore_10 : decode cX2_restore 10 = .ok (.getfield 21, 3) := by decide +kernel
theorem dX2_restore_13 : decode cX2_restore 13 = .ok (.iconst 1, 1) := by decide +kernel
theorem dX2_restore_14 : decode cX2_restore 14 = .ok (.isub, 1) := by decide +kernel
theorem dX2_restore_15 : decode cX2_restore 15 = .ok (.putfield 21, 3) := by decide +kernel
theorem dX2_restore_18 : decode cX2_restore 18 = .ok (.aload_n 0, 1) := by decide +kernel
theorem dX2_restore_19 : decode cX2_restore 19 = .ok (.aload_n 0, 1) := by decide +kernel
theorem dX2_restore_20 : decode cX2_restore 20 = .ok (.getfield 21, 3) := by decide +kernel
theorem dX2_restore_23 : decode cX2_restore 23 = .ok (.invokevirtual 25, 3) := by decide +kernel
theorem dX2_restore_26 : decode cX2_restore 26 = .ok (.astore_n 2, 1) := by decide +kernel
theorem dX2_restore_27 : decode cX2_restore 27 = .ok (.aload_n 2, 1) := by decide +kernel
theorem dX2_restore_28 : decode cX2_restore 28 = .ok (.ifnull 8, 3) := by decide +kernel
theorem dX2_restore_31 : decode cX2_restore 31 = .ok (.aload_n 1, 1) := by decide +kernel
theorem dX2_restore_32 : decode cX2_restore 32 = .ok (.aload_n 2, 1) := by decide +kernel
theorem dX2_restore_33 : decode cX2_restore 33 = .ok (.invokevirtual 29, 3) := by decide +kernel
theorem dX2_restore_36 : decode cX2_restore 36 = .ok (.return_, 1) := by decide +kernel
theorem dX2_stateAt_0 : decode cX2_stateAt 0 = .ok (.aload_n 0, 1) := by decide +kernel
theorem dX2_stateAt_1 : decode cX2_stateAt 1 = .ok (.getfield 11, 3) := by decide +kernel
theorem dX2_stateAt_4 : decode cX2_stateAt 4 = .ok (.aload_n 0, 1) := by decide +kernel
theorem dX2_stateAt_5 : decode cX2_stateAt 5 = .ok (.getfield 17, 3) := by decide +kernel
theorem dX2_stateAt_8 : decode cX2_stateAt 8 = .ok (.iload_n 1, 1) := by decide +kernel
theorem dX2_stateAt_9 : decode cX2_stateAt 9 = .ok (.iadd, 1) := by decide +kernel
theorem dX2_stateAt_10 : decode cX2_stateAt 10 = .ok (.bipush 6, 2) := by decide +kernel
theorem dX2_stateAt_12 : decode cX2_stateAt 12 = .ok (.invokestatic 33, 3) := by decide +kernel
theorem dX2_stateAt_15 : decode cX2_stateAt 15 = .ok (.aaload, 1) := by decide +kernel
theorem dX2_stateAt_16 : decode cX2_stateAt 16 = .ok (.areturn, 1) := by decide +kernel
theorem dX3_init_0 : decode cX3_init 0 = .ok (.aload_n 0, 1) := by decide +kernel
theorem dX3_init_1 : decode cX3_init 1 = .ok (.invokespecial 3, 3) := by decide +kernel
theorem dX3_init_4 : decode cX3_init 4 = .ok (.aload_n 0, 1) := by decide +kernel
theorem dX3_init_5 : decode cX3_init 5 = .ok (.iconst 0, 1) := by decide +kernel
theorem dX3_init_6 : decode cX3_init 6 = .ok (.putfield 9, 3) := by decide +kernel
theorem dX3_init_9 : decode cX3_init 9 = .ok (.aload_n 0, 1) := by decide +kernel
theorem dX3_init_10 : decode cX3_init 10 = .ok (.iconst 0, 1) := by decide +kernel
theorem dX3_init_11 : decode cX3_init 11 = .ok (.putfield 15, 3) := by decide +kernel
theorem dX3_init_14 : decode cX3_init 14 = .ok (.aload_n 0, 1) := by decide +kernel
theorem dX3_init_15 : decode cX3_init 15 = .ok (.iconst 0, 1) := by decide +kernel
theorem dX3_init_16 : decode cX3_init 16 = .ok (.putfield 18, 3) := by decide +kernel
theorem dX3_init_19 : decode cX3_init 19 = .ok (.aload_n 0, 1) := by decide +kernel
theorem dX3_init_20 : decode cX3_init 20 = .ok (.iconst 0, 1) := by decide +kernel
theorem dX3_init_21 : decode cX3_init 21 = .ok (.putfield 21, 3) := by decide +kernel
theorem dX3_init_24 : decode cX3_init 24 = .ok (.aload_n 0, 1) := by decide +kernel
theorem dX3_init_25 : decode cX3_init 25 = .ok (.bipush 20, 2) := by decide +kernel
theorem dX3_init_27 : decode cX3_init 27 = .ok (.newarray .int, 2) := by decide +kernel
theorem dX3_init_29 : decode cX3_init 29 = .ok (.putfield 24, 3) := by decide +kernel
theorem dX3_init_32 : decode cX3_init 32 = .ok (.return_, 1) := by decide +kernel
theorem dX3_copyFrom_0 : decode cX3_copyFrom 0 = .ok (.aload_n 0, 1) := by decide +kernel
theorem dX3_copyFrom_1 : decode cX3_copyFrom 1 = .ok (.aload_n 1, 1) := by decide +kernel
theorem dX3_copyFrom_2 : decode cX3_copyFrom 2 = .ok (.getfield 9, 3) := by decide +kernel
theorem dX3_copyFrom_5 : decode cX3_copyFrom 5 = .ok (.putfield 9, 3) := by decide +kernel
theorem dX3_copyFrom_8 : decode cX3_copyFrom 8 = .ok (.aload_n 0, 1) := by decide +kernel
theorem dX3_copyFrom_9 : decode cX3_copyFrom 9 = .ok (.aload_n 1, 1) := by decide +kernel
theorem dX3_copyFrom_10 : decode cX3_copyFrom 10 = .ok (.getfield 15, 3) := by decide +kernel
theorem dX3_copyFrom_13 : decode cX3_copyFrom 13 = .ok (.putfield 15, 3) := by decide +kernel
theorem dX3_copyFrom_16 : decode cX3_copyFrom 16 = .ok (.aload_n 0, 1) := by decide +kernel
theorem dX3_copyFrom_17 : decode cX3_copyFrom 17 = .ok (.aload_n 1, 1) := by decide +kernel
theorem dX3_copyFrom_18 : decode cX3_copyFrom 18 = .ok (.getfield 18, 3) := by decide +kernel
theorem dX3_copyFrom_21 : decode cX3_copyFrom 21 = .ok (.putfield 18, 3) := by decide +kernel
theorem dX3_copyFrom_24 : decode cX3_copyFrom 24 = .ok (.aload_n 0, 1) := by decide +kernel
theorem dX3_copyFrom_25 : decode cX3_copyFrom 25 = .ok (.aload_n 1, 1) := by decide +kernel
theorem dX3_copyFrom_26 : decode cX3_copyFrom 26 = .ok (.getfield 21, 3) := by decide +kernel
theorem dX3_copyFrom_29 : decode cX3_copyFrom 29 = .ok (.putfield 21, 3) := by decide +kernel
theorem dX3_copyFrom_32 : decode cX3_copyFrom 32 = .ok (.aload_n 1, 1) := by decide +kernel
theorem dX3_copyFrom_33 : decode cX3_copyFrom 33 = .ok (.getfield 24, 3) := by decide +kernel
theorem dX3_copyFrom_36 : decode cX3_copyFrom 36 = .ok (.aload_n 0, 1) := by decide +kernel
theorem dX3_copyFrom_37 : decode cX3_copyFrom 37 = .ok (.getfield 24, 3) := by decide +kernel
theorem dX3_copyFrom_40 : decode cX3_copyFrom 40 = .ok (.invokestatic 28, 3) := by decide +kernel
theorem dX3_copyFrom_43 : decode cX3_copyFrom 43 = .ok (.return_, 1) := by decide +kernel
theorem dX3_renew_0 : decode cX3_renew 0 = .ok (.aload_n 0, 1) := by decide +kernel
theorem dX3_renew_1 : decode cX3_renew 1 = .ok (.iconst 0, 1) := by decide +kernel
theorem dX3_renew_2 : decode cX3_renew 2 = .ok (.putfield 9, 3) := by decide +kernel
theorem dX3_renew_5 : decode cX3_renew 5 = .ok (.aload_n 0, 1) := by decide +kernel
theorem dX3_renew_6 : decode cX3_renew 6 = .ok (.iconst 0, 1) := by decide +kernel
theorem dX3_renew_7 : decode cX3_renew 7 = .ok (.putfield 15, 3) := by decide +kernel
theorem dX3_renew_10 : decode cX3_renew 10 = .ok (.aload_n 0, 1) := by decide +kernel
theorem dX3_renew_11 : decode cX3_renew 11 = .ok (.iconst 0, 1) := by decide +kernel
theorem dX3_renew_12 : decode cX3_renew 12 = .ok (.putfield 18, 3) := by decide +kernel
theorem dX3_renew_15 : decode cX3_renew 15 = .ok (.aload_n 0, 1) := by decide +kernel
theorem dX3_renew_16 : decode cX3_renew 16 = .ok (.iconst 0, 1) := by decide +kernel
theorem dX3_renew_17 : decode cX3_renew 17 = .ok (.putfield 21, 3) := by decide +kernel
theorem dX3_renew_20 : decode cX3_renew 20 = .ok (.aload_n 0, 1) := by decide +kernel
theorem dX3_renew_21 : decode cX3_renew 21 = .ok (.getfield 24, 3) := by decide +kernel
theorem dX3_renew_24 : decode cX3_renew 24 = .ok (.iconst 0, 1) := by decide +kernel
theorem dX3_renew_25 : decode cX3_renew 25 = .ok (.invokestatic 32, 3) := by decide +kernel
theorem dX3_renew_28 : decode cX3_renew 28 = .ok (.return_, 1) := by decide +kernel
theorem dX3_addSecond_0 : decode cX3_addSecond 0 = .ok (.aload_n 0, 1) := by decide +kernel
theorem dX3_addSecond_1 : decode cX3_addSecond 1 = .ok (.getfield 24, 3) := by decide +kernel
theorem dX3_addSecond_4 : decode cX3_addSecond 4 = .ok (.aload_n 0, 1) := by decide +kernel
theorem dX3_addSecond_5 : decode cX3_addSecond 5 = .ok (.getfield 21, 3) := by decide +kernel
theorem dX3_addSecond_8 : decode cX3_addSecond 8 = .ok (.bipush 20, 2) := by decide +kernel
theorem dX3_addSecond_10 : decode cX3_addSecond 10 = .ok (.invokestatic 38, 3) := by decide +kernel
theorem dX3_addSecond_13 : decode cX3_addSecond 13 = .ok (.iload_n 1, 1) := by decide +kernel
theorem dX3_addSecond_14 : decode cX3_addSecond 14 = .ok (.iastore, 1) := by decide +kernel
theorem dX3_addSecond_15 : decode cX3_addSecond 15 = .ok (.aload_n 0, 1) := by decide +kernel
theorem dX3_addSecond_16 : decode cX3_addSecond 16 = .ok (.dup, 1) := by decide +kernel
theorem dX3_addSecond_17 : decode cX3_addSecond 17 = .ok (.getfield 21, 3) := by decide +kernel
theorem dX3_addSecond_20 : decode cX3_addSecond 20 = .ok (.iconst 1, 1) := by decide +kernel
theorem dX3_addSecond_21 : decode cX3_addSecond 21 = .ok (.iadd, 1) := by decide +kernel
theorem dX3_addSecond_22 : decode cX3_addSecond 22 = .ok (.putfield 21, 3) := by decide +kernel
theorem dX3_addSecond_25 : decode cX3_addSecond 25 = .ok (.aload_n 0, 1) := by decide +kernel
theorem dX3_addSecond_26 : decode cX3_addSecond 26 = .ok (.dup, 1) := by decide +kernel
theorem dX3_addSecond_27 : decode cX3_addSecond 27 = .ok (.getfield 18, 3) := by decide +kernel
theorem dX3_addSecond_30 : decode cX3_addSecond 30 = .ok (.iload_n 1, 1) := by decide +kernel
theorem dX3_addSecond_31 : decode cX3_addSecond 31 = .ok (.iadd, 1) := by decide +kernel
theorem dX3_addSecond_32 : decode cX3_addSecond 32 = .ok (.putfield 18, 3) := by decide +kernel
theorem dX3_addSecond_35 : decode cX3_addSecond 35 = .ok (.return_, 1) := by decide +kernel
theorem dX3_powerOf_0 : decode cX3_powerOf 0 = .ok (.aload_n 0, 1) := by decide +kernel
theorem dX3_powerOf_1 : decode cX3_powerOf 1 = .ok (.getfield 24, 3) := by decide +kernel
theorem dX3_powerOf_4 : decode cX3_powerOf 4 = .ok (.aload_n 0, 1) := by decide +kernel
theorem dX3_powerOf_5 : decode cX3_powerOf 5 = .ok (.getfield 21, 3) := by decide +kernel
theorem dX3_powerOf_8 : decode cX3_powerOf 8 = .ok (.iload_n 1, 1) := by decide +kernel
theorem dX3_powerOf_9 : decode cX3_powerOf 9 = .ok (.isub, 1) := by decide +kernel
theorem dX3_powerOf_10 : decode cX3_powerOf 10 = .ok (.bipush 20, 2) := by decide +kernel
theorem dX3_powerOf_12 : decode cX3_powerOf 12 = .ok (.invokestatic 38, 3) := by decide +kernel
theorem dX3_powerOf_15 : decode cX3_powerOf 15 = .ok (.iaload, 1) := by decide +kernel
theorem dX3_powerOf_16 : decode cX3_powerOf 16 = .ok (.ireturn, 1) := by decide +kernel
theorem dX4_init_0 : decode cX4_init 0 = .ok (.aload_n 0, 1) := by decide +kernel
theorem dX4_init_1 : decode cX4_init 1 = .ok (.invokespecial 3, 3) := by decide +kernel
theorem dX4_init_4 : decode cX4_init 4 = .ok (.aload_n 0, 1) := by decide +kernel
theorem dX4_init_5 : decode cX4_init 5 = .ok (.bipush 6, 2) := by decide +kernel
theorem dX4_init_7 : decode cX4_init 7 = .ok (.newarray .int, 2) := by decide +kernel
theorem dX4_init_9 : decode cX4_init 9 = .ok (.putfield 11, 3) := by decide +kernel
theorem dX4_init_12 : decode cX4_init 12 = .ok (.aload_n 0, 1) := by decide +kernel
theorem dX4_init_13 : decode cX4_init 13 = .ok (.bipush 6, 2) := by decide +kernel
theorem dX4_init_15 : decode cX4_init 15 = .ok (.bipush 40, 2) := by decide +kernel
theorem dX4_init_17 : decode cX4_init 17 = .ok (.multianewarray 15 2, 4) := by decide +kernel
theorem dX4_init_21 : decode cX4_init 21 = .ok (.putfield 17, 3) := by decide +kernel
theorem dX4_init_24 : decode cX4_init 24 = .ok (.aload_n 0, 1) := by decide +kernel
theorem dX4_init_25 : decode cX4_init 25 = .ok (.bipush 6, 2) := by decide +kernel
theorem dX4_init_27 : decode cX4_init 27 = .ok (.bipush 6, 2) := by decide +kernel
theorem dX4_init_29 : decode cX4_init 29 = .ok (.multianewarray 15 2, 4) := by decide +kernel
theorem dX4_init_33 : decode cX4_init 33 = .ok (.putfield 20, 3) := by decide +kernel
theorem dX4_init_36 : decode cX4_init 36 = .ok (.aload_n 0, 1) := by decide +kernel
theorem dX4_init_37 : decode cX4_init 37 = .ok (.bipush 32, 2) := by decide +kernel
theorem dX4_init_39 : decode cX4_init 39 = .ok (.bipush 6, 2) := by decide +kernel
theorem dX4_init_41 : decode cX4_init 41 = .ok (.multianewarray 15 2, 4) := by decide +kernel
theorem dX4_init_45 : decode cX4_init 45 = .ok (.putfield 23, 3) := by decide +kernel
theorem dX4_init_48 : decode cX4_init 48 = .ok (.aload_n 0, 1) := by decide +kernel
theorem dX4_init_49 : decode cX4_init 49 = .ok (.iconst 0, 1) := by decide +kernel
theorem dX4_init_50 : decode cX4_init 50 = .ok (.putfield 26, 3) := by decide +kernel
theorem dX4_init_53 : decode cX4_init 53 = .ok (.return_, 1) := by decide +kernel
theorem dX4_find_0 : decode cX4_find 0 = .ok (.aload_n 0, 1) := by decide +kernel
theorem dX4_find_1 : decode cX4_find 1 = .ok (.aload_n 1, 1) := by decide +kernel
theorem dX4_find_2 : decode cX4_find 2 = .ok (.iload_n 2, 1) := by decide +kernel
theorem dX4_find_3 : decode cX4_find 3 = .ok (.aload_n 3, 1) := by decide +kernel
theorem dX4_find_4 : decode cX4_find 4 = .ok (.invokevirtual 30, 3) := by decide +kernel
theorem dX4_find_7 : decode cX4_find 7 = .ok (.aload_n 0, 1) := by decide +kernel
theorem dX4_find_8 : decode cX4_find 8 = .ok (.aload_n 1, 1) := by decide +kernel
theorem dX4_find_9 : decode cX4_find 9 = .ok (.getfield 34, 3) := by decide +kernel
theorem dX4_find_12 : decode cX4_find 12 = .ok (.invokevirtual 40, 3) := by decide +kernel
theorem dX4_find_15 : decode cX4_find 15 = .ok (.iconst 1, 1) := by decide +kernel
theorem dX4_find_16 : decode cX4_find 16 = .ok (.istore 4, 2) := by decide +kernel
theorem dX4_find_18 : decode cX4_find 18 = .ok (.iload 4, 2) := by decide +kernel
theorem dX4_find_20 : decode cX4_find 20 = .ok (.bipush 32, 2) := by decide +kernel
theorem dX4_find_22 : decode cX4_find 22 = .ok (.if_icmp .ge 69, 3) := by decide +kernel
theorem dX4_find_25 : decode cX4_find 25 = .ok (.iload 4, 2) := by decide +kernel
theorem dX4_find_27 : decode cX4_find 27 = .ok (.aload_n 0, 1) := by decide +kernel
theorem dX4_find_28 : decode cX4_find 28 = .ok (.invokevirtual 44, 3) := by decide +kernel
theorem dX4_find_31 : decode cX4_find 31 = .ok (.if_icmp .gt 60, 3) := by decide +kernel
theorem dX4_find_34 : decode cX4_find 34 = .ok (.iconst 0, 1) := by decide +kernel
theorem dX4_find_35 : decode cX4_find 35 = .ok (.istore 5, 2) := by decide +kernel
theorem dX4_find_37 : decode cX4_find 37 = .ok (.iload 5, 2) := by decide +kernel
theorem dX4_find_39 : decode cX4_find 39 = .ok (.aload_n 0, 1) := by decide +kernel
theorem dX4_find_40 : decode cX4_find 40 = .ok (.getfield 26, 3) := by decide +kernel
theorem dX4_find_43 : decode cX4_find 43 = .ok (.if_icmp .gt 42, 3) := by decide +kernel
theorem dX4_find_46 : decode cX4_find 46 = .ok (.iload 5, 2) := by decide +kernel
theorem dX4_find_48 : decode cX4_find 48 = .ok (.bipush 6, 2) := by decide +kernel
theorem dX4_find_50 : decode cX4_find 50 = .ok (.if_icmp .ge 35, 3) := by decide +kernel
theorem dX4_find_53 : decode cX4_find 53 = .ok (.aload_n 0, 1) := by decide +kernel
theorem dX4_find_54 : decode cX4_find 54 = .ok (.getfield 23, 3) := by decide +kernel
theorem dX4_find_57 : decode cX4_find 57 = .ok (.iload 4, 2) := by decide +kernel
theorem dX4_find_59 : decode cX4_find 59 = .ok (.aaload, 1) := by decide +kernel
theorem dX4_find_60 : decode cX4_find 60 = .ok (.iload 5, 2) := by decide +kernel
theorem dX4_find_62 : decode cX4_find 62 = .ok (.aload_n 0, 1) := by decide +kernel
theorem dX4_find_63 : decode cX4_find 63 = .ok (.iload 5, 2) := by decide +kernel
theorem dX4_find_65 : decode cX4_find 65 = .ok (.aload_n 0, 1) := by decide +kernel
theorem dX4_find_66 : decode cX4_find 66 = .ok (.iload 5, 2) := by decide +kernel
theorem dX4_find_68 : decode cX4_find 68 = .ok (.iload 4, 2) := by decide +kernel
theorem dX4_find_70 : decode cX4_find 70 = .ok (.invokevirtual 48, 3) := by decide +kernel
theorem dX4_find_73 : decode cX4_find 73 = .ok (.iload 4, 2) := by decide +kernel
theorem dX4_find_75 : decode cX4_find 75 = .ok (.invokevirtual 52, 3) := by decide +kernel
theorem dX4_find_78 : decode cX4_find 78 = .ok (.iastore, 1) := by decide +kernel
theorem dX4_find_79 : decode cX4_find 79 = .ok (.iinc 5 1, 3) := by decide +kernel
theorem dX4_find_82 : decode cX4_find 82 = .ok (.goto (-45), 3) := by decide +kernel
theorem dX4_find_85 : decode cX4_find 85 = .ok (.iinc 4 1, 3) := by decide +kernel
theorem dX4_find_88 : decode cX4_find 88 = .ok (.goto (-70), 3) := by decide +kernel
theorem dX4_find_91 : decode cX4_find 91 = .ok (.return_, 1) := by decide +kernel
theorem dX4_fewestFlips_0 : decode cX4_fewestFlips 0 = .ok (.aload_n 0, 1) := by decide +kernel
theorem dX4_fewestFlips_1 : decode cX4_fewestFlips 1 = .ok (.invokevirtual 44, 3) := by decide +kernel
theorem dX4_fewestFlips_4 : decode cX4_fewestFlips 4 = .ok (.istore_n 1, 1) := by decide +kernel
theorem dX4_fewestFlips_5 : decode cX4_fewestFlips 5 = .ok (.iload_n 1, 1) := by decide +kernel
theorem dX4_fewestFlips_6 : decode cX4_fewestFlips 6 = .ok (.ifCond .lt 20, 3) := by decide +kernel
theorem dX4_fewestFlips_9 : decode cX4_fewestFlips 9 = .ok (.iload_n 1, 1) := by decide +kernel
theorem dX4_fewestFlips_10 : decode cX4_fewestFlips 10 = .ok (.bipush 32, 2) := by decide +kernel
theorem dX4_fewestFlips_12 : decode cX4_fewestFlips 12 = .ok (.if_icmp .ge 14, 3) := by decide +kernel
theorem dX4_fewestFlips_15 : decode cX4_fewestFlips 15 = .ok (.aload_n 0, 1) := by decide +kernel
theorem dX4_fewestFlips_16 : decode cX4_fewestFlips 16 = .ok (.getfield 23, 3) := by decide +kernel
theorem dX4_fewestFlips_19 : decode cX4_fewestFlips 19 = .ok (.iload_n 1, 1) := by decide +kernel
theorem dX4_fewestFlips_20 : decode cX4_fewestFlips 20 = .ok (.aaload, 1) := by decide +kernel
theorem dX4_fewestFlips_21 : decode cX4_fewestFlips 21 = .ok (.iconst 0, 1) := by decide +kernel
theorem dX4_fewestFlips_22 : decode cX4_fewestFlips 22 = .ok (.iaload, 1) := by decide +kernel
theorem dX4_fewestFlips_23 : decode cX4_fewestFlips 23 = .ok (.goto 4, 3) := by decide +kernel
theorem dX4_fewestFlips_26 : decode cX4_fewestFlips 26 = .ok (.iconst 0, 1) := by decide +kernel
theorem dX4_fewestFlips_27 : decode cX4_fewestFlips 27 = .ok (.ireturn, 1) := by decide +kernel
theorem dX4_messageAt_0 : decode cX4_messageAt 0 = .ok (.aload_n 0, 1) := by decide +kernel
theorem dX4_messageAt_1 : decode cX4_messageAt 1 = .ok (.invokevirtual 44, 3) := by decide +kernel
theorem dX4_messageAt_4 : decode cX4_messageAt 4 = .ok (.istore_n 2, 1) := by decide +kernel
theorem dX4_messageAt_5 : decode cX4_messageAt 5 = .ok (.iconst 0, 1) := by decide +kernel
theorem dX4_messageAt_6 : decode cX4_messageAt 6 = .ok (.istore_n 3, 1) := by decide +kernel
theorem dX4_messageAt_7 : decode cX4_messageAt 7 = .ok (.iconst 0, 1) := by decide +kernel
theorem dX4_messageAt_8 : decode cX4_messageAt 8 = .ok (.istore 4, 2) := by decide +kernel
theorem dX4_messageAt_10 : decode cX4_messageAt 10 = .ok (.iload 4, 2) := by decide +kernel
theorem dX4_messageAt_12 : decode cX4_messageAt 12 = .ok (.iload_n 1, 1) := by decide +kernel
theorem dX4_messageAt_13 : decode cX4_messageAt 13 = .ok (.if_icmp .ge 31, 3) := by decide +kernel
theorem dX4_messageAt_16 : decode cX4_messageAt 16 = .ok (.iload 4, 2) := by decide +kernel
theorem dX4_messageAt_18 : decode cX4_messageAt 18 = .ok (.aload_n 0, 1) := by decide +kernel
theorem dX4_messageAt_19 : decode cX4_messageAt 19 = .ok (.getfield 26, 3) := by decide +kernel
theorem dX4_messageAt_22 : decode cX4_messageAt 22 = .ok (.if_icmp .ge 22, 3) := by decide +kernel
theorem dX4_messageAt_25 : decode cX4_messageAt 25 = .ok (.aload_n 0, 1) := by decide +kernel
theorem dX4_messageAt_26 : decode cX4_messageAt 26 = .ok (.iload_n 3, 1) := by decide +kernel
theorem dX4_messageAt_27 : decode cX4_messageAt 27 = .ok (.iload_n 2, 1) := by decide +kernel
theorem dX4_messageAt_28 : decode cX4_messageAt 28 = .ok (.invokevirtual 48, 3) := by decide +kernel
theorem dX4_messageAt_31 : decode cX4_messageAt 31 = .ok (.istore_n 3, 1) := by decide +kernel
theorem dX4_messageAt_32 : decode cX4_messageAt 32 = .ok (.iload_n 2, 1) := by decide +kernel
theorem dX4_messageAt_33 : decode cX4_messageAt 33 = .ok (.iload_n 3, 1) := by decide +kernel
theorem dX4_messageAt_34 : decode cX4_messageAt 34 = .ok (.invokestatic 56, 3) := by decide +kernel
theorem dX4_messageAt_37 : decode cX4_messageAt 37 = .ok (.istore_n 2, 1) := by decide +kernel
theorem dX4_messageAt_38 : decode cX4_messageAt 38 = .ok (.iinc 4 1, 3) := by decide +kernel
theorem dX4_messageAt_41 : decode cX4_messageAt 41 = .ok (.goto (-31), 3) := by decide +kernel
theorem dX4_messageAt_44 : decode cX4_messageAt 44 = .ok (.iload_n 3, 1) := by decide +kernel
theorem dX4_messageAt_45 : decode cX4_messageAt 45 = .ok (.ifCond .lt 18, 3) := by decide +kernel
theorem dX4_messageAt_48 : decode cX4_messageAt 48 = .ok (.iload_n 3, 1) := by decide +kernel
theorem dX4_messageAt_49 : decode cX4_messageAt 49 = .ok (.bipush 6, 2) := by decide +kernel
theorem dX4_messageAt_51 : decode cX4_messageAt 51 = .ok (.if_icmp .ge 12, 3) := by decide +kernel
theorem dX4_messageAt_54 : decode cX4_messageAt 54 = .ok (.aload_n 0, 1) := by decide +kernel
theorem dX4_messageAt_55 : decode cX4_messageAt 55 = .ok (.getfield 11, 3) := by decide +kernel
theorem dX4_messageAt_58 : decode cX4_messageAt 58 = .ok (.iload_n 3, 1) := by decide +kernel
theorem dX4_messageAt_59 : decode cX4_messageAt 59 = .ok (.iaload, 1) := by decide +kernel
theorem dX4_messageAt_60 : decode cX4_messageAt 60 = .ok (.goto 4, 3) := by decide +kernel
theorem dX4_messageAt_63 : decode cX4_messageAt 63 = .ok (.iconst 0, 1) := by decide +kernel
theorem dX4_messageAt_64 : decode cX4_messageAt 64 = .ok (.ireturn, 1) := by decide +kernel
theorem dX4_gather_0 : decode cX4_gather 0 = .ok (.aload_n 0, 1) := by decide +kernel
theorem dX4_gather_1 : decode cX4_gather 1 = .ok (.iconst 0, 1) := by decide +kernel
theorem dX4_gather_2 : decode cX4_gather 2 = .ok (.putfield 26, 3) := by decide +kernel
theorem dX4_gather_5 : decode cX4_gather 5 = .ok (.aload_n 1, 1) := by decide +kernel
theorem dX4_gather_6 : decode cX4_gather 6 = .ok (.getfield 34, 3) := by decide +kernel
theorem dX4_gather_9 : decode cX4_gather 9 = .ok (.getfield 59, 3) := by decide +kernel
theorem dX4_gather_12 : decode cX4_gather 12 = .ok (.aload_n 0, 1) := by decide +kernel
theorem dX4_gather_13 : decode cX4_gather 13 = .ok (.getfield 17, 3) := by decide +kernel
theorem dX4_gather_16 : decode cX4_gather 16 = .ok (.iconst 0, 1) := by decide +kernel
theorem dX4_gather_17 : decode cX4_gather 17 = .ok (.aaload, 1) := by decide +kernel
theorem dX4_gather_18 : decode cX4_gather 18 = .ok (.invokestatic 64, 3) := by decide +kernel
theorem dX4_gather_21 : decode cX4_gather 21 = .ok (.iconst 0, 1) := by decide +kernel
theorem dX4_gather_22 : decode cX4_gather 22 = .ok (.istore 4, 2) := by decide +kernel
theorem dX4_gather_24 : decode cX4_gather 24 = .ok (.iload 4, 2) := by decide +kernel
theorem dX4_gather_26 : decode cX4_gather 26 = .ok (.bipush 8, 2) := by decide +kernel
theorem dX4_gather_28 : decode cX4_gather 28 = .ok (.if_icmp .ge 64, 3) := by decide +kernel
theorem dX4_gather_31 : decode cX4_gather 31 = .ok (.iload_n 2, 1) := by decide +kernel
theorem dX4_gather_32 : decode cX4_gather 32 = .ok (.iconst 1, 1) := by decide +kernel
theorem dX4_gather_33 : decode cX4_gather 33 = .ok (.iload 4, 2) := by decide +kernel
theorem dX4_gather_35 : decode cX4_gather 35 = .ok (.ishl, 1) := by decide +kernel
theorem dX4_gather_36 : decode cX4_gather 36 = .ok (.iand, 1) := by decide +kernel
theorem dX4_gather_37 : decode cX4_gather 37 = .ok (.ifCond .eq 49, 3) := by decide +kernel
theorem dX4_gather_40 : decode cX4_gather 40 = .ok (.aload_n 0, 1) := by decide +kernel
theorem dX4_gather_41 : decode cX4_gather 41 = .ok (.getfield 26, 3) := by decide +kernel
theorem dX4_gather_44 : decode cX4_gather 44 = .ok (.iconst 5, 1) := by decide +kernel
theorem dX4_gather_45 : decode cX4_gather 45 = .ok (.if_icmp .ge 41, 3) := by decide +kernel
theorem dX4_gather_48 : decode cX4_gather 48 = .ok (.aload_n 0, 1) := by decide +kernel
theorem dX4_gather_49 : decode cX4_gather 49 = .ok (.dup, 1) := by decide +kernel
theorem dX4_gather_50 : decode cX4_gather 50 = .ok (.getfield 26, 3) := by decide +kernel
theorem dX4_gather_53 : decode cX4_gather 53 = .ok (.iconst 1, 1) := by decide +kernel
theorem dX4_gather_54 : decode cX4_gather 54 = .ok (.iadd, 1) := by decide +kernel
theorem dX4_gather_55 : decode cX4_gather 55 = .ok (.putfield 26, 3) := by decide +kernel
theorem dX4_gather_58 : decode cX4_gather 58 = .ok (.aload_n 0, 1) := by decide +kernel
theorem dX4_gather_59 : decode cX4_gather 59 = .ok (.getfield 11, 3) := by decide +kernel
theorem dX4_gather_62 : decode cX4_gather 62 = .ok (.aload_n 0, 1) := by decide +kernel
theorem dX4_gather_63 : decode cX4_gather 63 = .ok (.getfield 26, 3) := by decide +kernel
theorem dX4_gather_66 : decode cX4_gather 66 = .ok (.iload 4, 2) := by decide +kernel
theorem dX4_gather_68 : decode cX4_gather 68 = .ok (.iastore, 1) := by decide +kernel
theorem dX4_gather_69 : decode cX4_gather 69 = .ok (.aload_n 3, 1) := by decide +kernel
theorem dX4_gather_70 : decode cX4_gather 70 = .ok (.aload_n 1, 1) := by decide +kernel
theorem dX4_gather_71 : decode cX4_gather 71 = .ok (.iload 4, 2) := by decide +kernel
theorem dX4_gather_73 : decode cX4_gather 73 = .ok (.iconst 0, 1) := by decide +kernel
theorem dX4_gather_74 : decode cX4_gather 74 = .ok (.aload_n 0, 1) := by decide +kernel
theorem dX4_gather_75 : decode cX4_gather 75 = .ok (.getfield 17, 3) := by decide +kernel
theorem dX4_gather_78 : decode cX4_gather 78 = .ok (.aload_n 0, 1) := by decide +kernel
theorem dX4_gather_79 : decode cX4_gather 79 = .ok (.getfield 26, 3) := by decide +kernel
theorem dX4_gather_82 : decode cX4_gather 82 = .ok (.aaload, 1) := by decide +kernel
theorem dX4_gather_83 : decode cX4_gather 83 = .ok (.invokevirtual 68, 3) := by decide +kernel
theorem dX4_gather_86 : decode cX4_gather 86 = .ok (.iinc 4 1, 3) := by decide +kernel
theorem dX4_gather_89 : decode cX4_gather 89 = .ok (.goto (-65), 3) := by decide +kernel
theorem dX4_gather_92 : decode cX4_gather 92 = .ok (.return_, 1) := by decide +kernel
theorem dX4_measure_0 : decode cX4_measure 0 = .ok (.iconst 0, 1) := by decide +kernel
theorem dX4_measure_1 : decode cX4_measure 1 = .ok (.istore_n 2, 1) := by decide +kernel
theorem dX4_measure_2 : decode cX4_measure 2 = .ok (.iload_n 2, 1) := by decide +kernel
theorem dX4_measure_3 : decode cX4_measure 3 = .ok (.aload_n 0, 1) := by decide +kernel
theorem dX4_measure_4 : decode cX4_measure 4 = .ok (.getfield 26, 3) := by decide +kernel
theorem dX4_measure_7 : decode cX4_measure 7 = .ok (.if_icmp .gt 61, 3) := by decide +kernel
theorem dX4_measure_10 : decode cX4_measure 10 = .ok (.iload_n 2, 1) := by decide +kernel
theorem dX4_measure_11 : decode cX4_measure 11 = .ok (.bipush 6, 2) := by decide +kernel
theorem dX4_measure_13 : decode cX4_measure 13 = .ok (.if_icmp .ge 55, 3) := by decide +kernel
theorem dX4_measure_16 : decode cX4_measure 16 = .ok (.iconst 0, 1) := by decide +kernel
theorem dX4_measure_17 : decode cX4_measure 17 = .ok (.istore_n 3, 1) := by decide +kernel
theorem dX4_measure_18 : decode cX4_measure 18 = .ok (.iload_n 3, 1) := by decide +kernel
theorem dX4_measure_19 : decode cX4_measure 19 = .ok (.aload_n 0, 1) := by decide +kernel
theorem dX4_measure_20 : decode cX4_measure 20 = .ok (.getfield 26, 3) := by decide +kernel
theorem dX4_measure_23 : decode cX4_measure 23 = .ok (.if_icmp .gt 39, 3) := by decide +kernel
theorem dX4_measure_26 : decode cX4_measure 26 = .ok (.iload_n 3, 1) := by decide +kernel
theorem dX4_measure_27 : decode cX4_measure 27 = .ok (.bipush 6, 2) := by decide +kernel
theorem dX4_measure_29 : decode cX4_measure 29 = .ok (.if_icmp .ge 33, 3) := by decide +kernel
theorem dX4_measure_32 : decode cX4_measure 32 = .ok (.aload_n 0, 1) := by decide +kernel
theorem dX4_measure_33 : decode cX4_measure 33 = .ok (.getfield 20, 3) := by decide +kernel
theorem dX4_measure_36 : decode cX4_measure 36 = .ok (.iload_n 2, 1) := by decide +kernel
theorem dX4_measure_37 : decode cX4_measure 37 = .ok (.aaload, 1) := by decide +kernel
theorem dX4_measure_38 : decode cX4_measure 38 = .ok (.iload_n 3, 1) := by decide +kernel
theorem dX4_measure_39 : decode cX4_measure 39 = .ok (.aload_n 1, 1) := by decide +kernel
theorem dX4_measure_40 : decode cX4_measure 40 = .ok (.aload_n 0, 1) := by decide +kernel
theorem dX4_measure_41 : decode cX4_measure 41 = .ok (.getfield 17, 3) := by decide +kernel
theorem dX4_measure_44 : decode cX4_measure 44 = .ok (.iload_n 2, 1) := by decide +kernel
theorem dX4_measure_45 : decode cX4_measure 45 = .ok (.aaload, 1) := by decide +kernel
theorem dX4_measure_46 : decode cX4_measure 46 = .ok (.aload_n 0, 1) := by decide +kernel
theorem dX4_measure_47 : decode cX4_measure 47 = .ok (.getfield 17, 3) := by decide +kernel
theorem dX4_measure_50 : decode cX4_measure 50 = .ok (.iload_n 3, 1) := by decide +kernel
theorem dX4_measure_51 : decode cX4_measure 51 = .ok (.aaload, 1) := by decide +kernel
theorem dX4_measure_52 : decode cX4_measure 52 = .ok (.invokevirtual 74, 3) := by decide +kernel
theorem dX4_measure_55 : decode cX4_measure 55 = .ok (.iastore, 1) := by decide +kernel
theorem dX4_measure_56 : decode cX4_measure 56 = .ok (.iinc 3 1, 3) := by decide +kernel
theorem dX4_measure_59 : decode cX4_measure 59 = .ok (.goto (-41), 3) := by decide +kernel
theorem dX4_measure_62 : decode cX4_measure 62 = .ok (.iinc 2 1, 3) := by decide +kernel
theorem dX4_measure_65 : decode cX4_measure 65 = .ok (.goto (-63), 3) := by decide +kernel
theorem dX4_measure_68 : decode cX4_measure 68 = .ok (.return_, 1) := by decide +kernel
theorem dX4_nextBehind_0 : decode cX4_nextBehind 0 = .ok (.iconst 0, 1) := by decide +kernel
theorem dX4_nextBehind_1 : decode cX4_nextBehind 1 = .ok (.istore_n 3, 1) := by decide +kernel
theorem dX4_nextBehind_2 : decode cX4_nextBehind 2 = .ok (.ldc 80, 2) := by decide +kernel
theorem dX4_nextBehind_4 : decode cX4_nextBehind 4 = .ok (.istore 4, 2) := by decide +kernel
theorem dX4_nextBehind_6 : decode cX4_nextBehind 6 = .ok (.iconst 1, 1) := by decide +kernel
theorem dX4_nextBehind_7 : decode cX4_nextBehind 7 = .ok (.istore 5, 2) := by decide +kernel
theorem dX4_nextBehind_9 : decode cX4_nextBehind 9 = .ok (.iload 5, 2) := by decide +kernel
theorem dX4_nextBehind_11 : decode cX4_nextBehind 11 = .ok (.aload_n 0, 1) := by decide +kernel
theorem dX4_nextBehind_12 : decode cX4_nextBehind 12 = .ok (.getfield 26, 3) := by decide +kernel
theorem dX4_nextBehind_15 : decode cX4_nextBehind 15 = .ok (.if_icmp .gt 43, 3) := by decide +kernel
theorem dX4_nextBehind_18 : decode cX4_nextBehind 18 = .ok (.iload_n 2, 1) := by decide +kernel
theorem dX4_nextBehind_19 : decode cX4_nextBehind 19 = .ok (.iload 5, 2) := by decide +kernel
theorem dX4_nextBehind_21 : decode cX4_nextBehind 21 = .ok (.invokestatic 56, 3) := by decide +kernel
theorem dX4_nextBehind_24 : decode cX4_nextBehind 24 = .ok (.iload_n 2, 1) := by decide +kernel
theorem dX4_nextBehind_25 : decode cX4_nextBehind 25 = .ok (.if_icmp .eq 27, 3) := by decide +kernel
theorem dX4_nextBehind_28 : decode cX4_nextBehind 28 = .ok (.aload_n 0, 1) := by decide +kernel
theorem dX4_nextBehind_29 : decode cX4_nextBehind 29 = .ok (.iload_n 1, 1) := by decide +kernel
theorem dX4_nextBehind_30 : decode cX4_nextBehind 30 = .ok (.iload 5, 2) := by decide +kernel
theorem dX4_nextBehind_32 : decode cX4_nextBehind 32 = .ok (.iload_n 2, 1) := by decide +kernel
theorem dX4_nextBehind_33 : decode cX4_nextBehind 33 = .ok (.invokevirtual 52, 3) := by decide +kernel
theorem dX4_nextBehind_36 : decode cX4_nextBehind 36 = .ok (.istore 6, 2) := by decide +kernel
theorem dX4_nextBehind_38 : decode cX4_nextBehind 38 = .ok (.iload 6, 2) := by decide +kernel
theorem dX4_nextBehind_40 : decode cX4_nextBehind 40 = .ok (.iload 4, 2) := by decide +kernel
theorem dX4_nextBehind_42 : decode cX4_nextBehind 42 = .ok (.if_icmp .ge 10, 3) := by decide +kernel
theorem dX4_nextBehind_45 : decode cX4_nextBehind 45 = .ok (.iload 5, 2) := by decide +kernel
theorem dX4_nextBehind_47 : decode cX4_nextBehind 47 = .ok (.istore_n 3, 1) := by decide +kernel
theorem dX4_nextBehind_48 : decode cX4_nextBehind 48 = .ok (.iload 6, 2) := by decide +kernel
theorem dX4_nextBehind_50 : decode cX4_nextBehind 50 = .ok (.istore 4, 2) := by decide +kernel
theorem dX4_nextBehind_52 : decode cX4_nextBehind 52 = .ok (.iinc 5 1, 3) := by decide +kernel
theorem dX4_nextBehind_55 : decode cX4_nextBehind 55 = .ok (.goto (-46), 3) := by decide +kernel
theorem dX4_nextBehind_58 : decode cX4_nextBehind 58 = .ok (.iload_n 3, 1) := by decide +kernel
theorem dX4_nextBehind_59 : decode cX4_nextBehind 59 = .ok (.ireturn, 1) := by decide +kernel
theorem dX4_flipsBy_0 : decode cX4_flipsBy 0 = .ok (.iload_n 3, 1) := by decide +kernel
theorem dX4_flipsBy_1 : decode cX4_flipsBy 1 = .ok (.iload_n 2, 1) := by decide +kernel
theorem dX4_flipsBy_2 : decode cX4_flipsBy 2 = .ok (.invokestatic 56, 3) := by decide +kernel
theorem dX4_flipsBy_5 : decode cX4_flipsBy 5 = .ok (.istore 4, 2) := by decide +kernel
theorem dX4_flipsBy_7 : decode cX4_flipsBy 7 = .ok (.iload_n 1, 1) := by decide +kernel
theorem dX4_flipsBy_8 : decode cX4_flipsBy 8 = .ok (.ifCond .lt 35, 3) := by decide +kernel
theorem dX4_flipsBy_11 : decode cX4_flipsBy 11 = .ok (.iload_n 1, 1) := by decide +kernel
theorem dX4_flipsBy_12 : decode cX4_flipsBy 12 = .ok (.bipush 6, 2) := by decide +kernel
theorem dX4_flipsBy_14 : decode cX4_flipsBy 14 = .ok (.if_icmp .ge 29, 3) := by decide +kernel
theorem dX4_flipsBy_17 : decode cX4_flipsBy 17 = .ok (.iload_n 2, 1) := by decide +kernel
theorem dX4_flipsBy_18 : decode cX4_flipsBy 18 = .ok (.ifCond .lt 25, 3) := by decide +kernel
theorem dX4_flipsBy_21 : decode cX4_flipsBy 21 = .ok (.iload_n 2, 1) := by decide +kernel
theorem dX4_flipsBy_22 : decode cX4_flipsBy 22 = .ok (.bipush 6, 2) := by decide +kernel
theorem dX4_flipsBy_24 : decode cX4_flipsBy 24 = .ok (.if_icmp .ge 19, 3) := by decide +kernel
theorem dX4_flipsBy_27 : decode cX4_flipsBy 27 = .ok (.iload 4, 2) := by decide +kernel
theorem dX4_flipsBy_29 : decode cX4_flipsBy 29 = .ok (.ifCond .lt 14, 3) := by decide +kernel
theorem dX4_flipsBy_32 : decode cX4_flipsBy 32 = .ok (.iload 4, 2) := by decide +kernel
theorem dX4_flipsBy_34 : decode cX4_flipsBy 34 = .ok (.bipush 32, 2) := by decide +kernel
theorem dX4_flipsBy_36 : decode cX4_flipsBy 36 = .ok (.if_icmp .ge 7, 3) := by decide +kernel
theorem dX4_flipsBy_39 : decode cX4_flipsBy 39 = .ok (.iconst 1, 1) := by decide +kernel
theorem dX4_flipsBy_40 : decode cX4_flipsBy 40 = .ok (.goto 4, 3) := by decide +kernel
theorem dX4_flipsBy_43 : decode cX4_flipsBy 43 = .ok (.iconst 0, 1) := by decide +kernel
theorem dX4_flipsBy_44 : decode cX4_flipsBy 44 = .ok (.istore 5, 2) := by decide +kernel
theorem dX4_flipsBy_46 : decode cX4_flipsBy 46 = .ok (.iload 5, 2) := by decide +kernel
theorem dX4_flipsBy_48 : decode cX4_flipsBy 48 = .ok (.ifCond .eq 24, 3) := by decide +kernel
theorem dX4_flipsBy_51 : decode cX4_flipsBy 51 = .ok (.aload_n 0, 1) := by decide +kernel
theorem dX4_flipsBy_52 : decode cX4_flipsBy 52 = .ok (.getfield 20, 3) := by decide +kernel
theorem dX4_flipsBy_55 : decode cX4_flipsBy 55 = .ok (.iload_n 1, 1) := by decide +kernel
theorem dX4_flipsBy_56 : decode cX4_flipsBy 56 = .ok (.aaload, 1) := by decide +kernel
theorem dX4_flipsBy_57 : decode cX4_flipsBy 57 = .ok (.iload_n 2, 1) := by decide +kernel
theorem dX4_flipsBy_58 : decode cX4_flipsBy 58 = .ok (.iaload, 1) := by decide +kernel
theorem dX4_flipsBy_59 : decode cX4_flipsBy 59 = .ok (.aload_n 0, 1) := by decide +kernel
theorem dX4_flipsBy_60 : decode cX4_flipsBy 60 = .ok (.getfield 23, 3) := by decide +kernel
theorem dX4_flipsBy_63 : decode cX4_flipsBy 63 = .ok (.iload 4, 2) := by decide +kernel
theorem dX4_flipsBy_65 : decode cX4_flipsBy 65 = .ok (.aaload, 1) := by decide +kernel
theorem dX4_flipsBy_66 : decode cX4_flipsBy 66 = .ok (.iload_n 2, 1) := by decide +kernel
theorem dX4_flipsBy_67 : decode cX4_flipsBy 67 = .ok (.iaload, 1) := by decide +kernel
theorem dX4_flipsBy_68 : decode cX4_flipsBy 68 = .ok (.iadd, 1) := by decide +kernel
theorem dX4_flipsBy_69 : decode cX4_flipsBy 69 = .ok (.goto 4, 3) := by decide +kernel
theorem dX4_flipsBy_72 : decode cX4_flipsBy 72 = .ok (.iconst 0, 1) := by decide +kernel
theorem dX4_flipsBy_73 : decode cX4_flipsBy 73 = .ok (.ireturn, 1) := by decide +kernel
theorem dX4_wholeSet_0 : decode cX4_wholeSet 0 = .ok (.iconst 1, 1) := by decide +kernel
theorem dX4_wholeSet_1 : decode cX4_wholeSet 1 = .ok (.aload_n 0, 1) := by decide +kernel
theorem dX4_wholeSet_2 : decode cX4_wholeSet 2 = .ok (.getfield 26, 3) := by decide +kernel
theorem dX4_wholeSet_5 : decode cX4_wholeSet 5 = .ok (.ishl, 1) := by decide +kernel
theorem dX4_wholeSet_6 : decode cX4_wholeSet 6 = .ok (.iconst 1, 1) := by decide +kernel
theorem dX4_wholeSet_7 : decode cX4_wholeSet 7 = .ok (.isub, 1) := by decide +kernel
theorem dX4_wholeSet_8 : decode cX4_wholeSet 8 = .ok (.ireturn, 1) := by decide +kernel
theorem dX4_without_0 : decode cX4_without 0 = .ok (.iload_n 1, 1) := by decide +kernel
theorem dX4_without_1 : decode cX4_without 1 = .ok (.ifCond .le 15, 3) := by decide +kernel
theorem dX4_without_4 : decode cX4_without 4 = .ok (.iload_n 0, 1) := by decide +kernel
theorem dX4_without_5 : decode cX4_without 5 = .ok (.iconst 1, 1) := by decide +kernel
theorem dX4_without_6 : decode cX4_without 6 = .ok (.iload_n 1, 1) := by decide +kernel
theorem dX4_without_7 : decode cX4_without 7 = .ok (.iconst 1, 1) := by decide +kernel
theorem dX4_without_8 : decode cX4_without 8 = .ok (.isub, 1) := by decide +kernel
theorem dX4_without_9 : decode cX4_without 9 = .ok (.ishl, 1) := by decide +kernel
theorem dX4_without_10 : decode cX4_without 10 = .ok (.iconst (-1), 1) := by decide +kernel
theorem dX4_without_11 : decode cX4_without 11 = .ok (.ixor, 1) := by decide +kernel
theorem dX4_without_12 : decode cX4_without 12 = .ok (.iand, 1) := by decide +kernel
theorem dX4_without_13 : decode cX4_without 13 = .ok (.goto 4, 3) := by decide +kernel
theorem dX4_without_16 : decode cX4_without 16 = .ok (.iload_n 0, 1) := by decide +kernel
theorem dX4_without_17 : decode cX4_without 17 = .ok (.ireturn, 1) := by decide +kernel
theorem dX5_init_0 : decode cX5_init 0 = .ok (.aload_n 0, 1) := by decide +kernel
theorem dX5_init_1 : decode cX5_init 1 = .ok (.invokespecial 3, 3) := by decide +kernel
theorem dX5_init_4 : decode cX5_init 4 = .ok (.aload_n 0, 1) := by decide +kernel
theorem dX5_init_5 : decode cX5_init 5 = .ok (.bipush 40, 2) := by decide +kernel
theorem dX5_init_7 : decode cX5_init 7 = .ok (.newarray .int, 2) := by decide +kernel
theorem dX5_init_9 : decode cX5_init 9 = .ok (.putfield 9, 3) := by decide +kernel
theorem dX5_init_12 : decode cX5_init 12 = .ok (.aload_n 0, 1) := by decide +kernel
theorem dX5_init_13 : decode cX5_init 13 = .ok (.bipush 40, 2) := by decide +kernel
theorem dX5_init_15 : decode cX5_init 15 = .ok (.newarray .int, 2) := by decide +kernel
theorem dX5_init_17 : decode cX5_init 17 = .ok (.putfield 15, 3) := by decide +kernel
theorem dX5_init_20 : decode cX5_init 20 = .ok (.return_, 1) := by decide +kernel
theorem dX5_draw_0 : decode cX5_draw 0 = .ok (.aload_n 1, 1) := by decide +kernel
theorem dX5_draw_1 : decode cX5_draw 1 = .ok (.getfield 18, 3) := by decide +kernel
theorem dX5_draw_4 : decode cX5_draw 4 = .ok (.getfield 24, 3) := by decide +kernel
theorem dX5_draw_7 : decode cX5_draw 7 = .ok (.istore 5, 2) := by decide +kernel
theorem dX5_draw_9 : decode cX5_draw 9 = .ok (.aload_n 1, 1) := by decide +kernel
theorem dX5_draw_10 : decode cX5_draw 10 = .ok (.getfield 30, 3) := by decide +kernel
theorem dX5_draw_13 : decode cX5_draw 13 = .ok (.iload_n 2, 1) := by decide +kernel
theorem dX5_draw_14 : decode cX5_draw 14 = .ok (.invokevirtual 34, 3) := by decide +kernel
theorem dX5_draw_17 : decode cX5_draw 17 = .ok (.istore 6, 2) := by decide +kernel
theorem dX5_draw_19 : decode cX5_draw 19 = .ok (.iload 6, 2) := by decide +kernel
theorem dX5_draw_21 : decode cX5_draw 21 = .ok (.iload 5, 2) := by decide +kernel
theorem dX5_draw_23 : decode cX5_draw 23 = .ok (.if_icmp .gt 15, 3) := by decide +kernel
theorem dX5_draw_26 : decode cX5_draw 26 = .ok (.iload 5, 2) := by decide +kernel
theorem dX5_draw_28 : decode cX5_draw 28 = .ok (.iload 6, 2) := by decide +kernel
theorem dX5_draw_30 : decode cX5_draw 30 = .ok (.isub, 1) := by decide +kernel
theorem dX5_draw_31 : decode cX5_draw 31 = .ok (.iconst 2, 1) := by decide +kernel
theorem dX5_draw_32 : decode cX5_draw 32 = .ok (.idiv, 1) := by decide +kernel
theorem dX5_draw_33 : decode cX5_draw 33 = .ok (.iload_n 3, 1) := by decide +kernel
theorem dX5_draw_34 : decode cX5_draw 34 = .ok (.iadd, 1) := by decide +kernel
theorem dX5_draw_35 : decode cX5_draw 35 = .ok (.goto 4, 3) := by decide +kernel
theorem dX5_draw_38 : decode cX5_draw 38 = .ok (.iload_n 3, 1) := by decide +kernel
theorem dX5_draw_39 : decode cX5_draw 39 = .ok (.istore 7, 2) := by decide +kernel
theorem dX5_draw_41 : decode cX5_draw 41 = .ok (.iconst 0, 1) := by decide +kernel
theorem dX5_draw_42 : decode cX5_draw 42 = .ok (.istore 8, 2) := by decide +kernel
theorem dX5_draw_44 : decode cX5_draw 44 = .ok (.iload 8, 2) := by decide +kernel
theorem dX5_draw_46 : decode cX5_draw 46 = .ok (.aload 4, 2) := by decide +kernel
theorem dX5_draw_48 : decode cX5_draw 48 = .ok (.arraylength, 1) := by decide +kernel
theorem dX5_draw_49 : decode cX5_draw 49 = .ok (.if_icmp .ge 38, 3) := by decide +kernel
theorem dX5_draw_52 : decode cX5_draw 52 = .ok (.aload 4, 2) := by decide +kernel
theorem dX5_draw_54 : decode cX5_draw 54 = .ok (.iload 8, 2) := by decide +kernel
theorem dX5_draw_56 : decode cX5_draw 56 = .ok (.iload 8, 2) := by decide +kernel
theorem dX5_draw_58 : decode cX5_draw 58 = .ok (.iload 5, 2) := by decide +kernel
theorem dX5_draw_60 : decode cX5_draw 60 = .ok (.if_icmp .ge 19, 3) := by decide +kernel
theorem dX5_draw_63 : decode cX5_draw 63 = .ok (.aload_n 1, 1) := by decide +kernel
theorem dX5_draw_64 : decode cX5_draw 64 = .ok (.getfield 30, 3) := by decide +kernel
theorem dX5_draw_67 : decode cX5_draw 67 = .ok (.iload_n 2, 1) := by decide +kernel
theorem dX5_draw_68 : decode cX5_draw 68 = .ok (.iload 8, 2) := by decide +kernel
theorem dX5_draw_70 : decode cX5_draw 70 = .ok (.iload 7, 2) := by decide +kernel
theorem dX5_draw_72 : decode cX5_draw 72 = .ok (.isub, 1) := by decide +kernel
theorem dX5_draw_73 : decode cX5_draw 73 = .ok (.invokevirtual 40, 3) := by decide +kernel
theorem dX5_draw_76 : decode cX5_draw 76 = .ok (.goto 4, 3) := by decide +kernel
theorem dX5_draw_79 : decode cX5_draw 79 = .ok (.iconst 0, 1) := by decide +kernel
theorem dX5_draw_80 : decode cX5_draw 80 = .ok (.iastore, 1) := by decide +kernel
theorem dX5_draw_81 : decode cX5_draw 81 = .ok (.iinc 8 1, 3) := by decide +kernel
theorem dX5_draw_84 : decode cX5_draw 84 = .ok (.goto (-40), 3) := by decide +kernel
theorem dX5_draw_87 : decode cX5_draw 87 = .ok (.return_, 1) := by decide +kernel
theorem dX5_drawAs_0 : decode cX5_drawAs 0 = .ok (.iload_n 3, 1) := by decide +kernel
theorem dX5_drawAs_1 : decode cX5_drawAs 1 = .ok (.iconst 1, 1) := by decide +kernel
theorem dX5_drawAs_2 : decode cX5_drawAs 2 = .ok (.if_icmp .ne 12, 3) := by decide +kernel
theorem dX5_drawAs_5 : decode cX5_drawAs 5 = .ok (.aload_n 0, 1) := by decide +kernel
theorem dX5_drawAs_6 : decode cX5_drawAs 6 = .ok (.aload_n 1, 1) := by decide +kernel
theorem dX5_drawAs_7 : decode cX5_drawAs 7 = .ok (.iload_n 2, 1) := by decide +kernel
theorem dX5_drawAs_8 : decode cX5_drawAs 8 = .ok (.invokevirtual 44, 3) := by decide +kernel
theorem dX5_drawAs_11 : decode cX5_drawAs 11 = .ok (.goto 4, 3) := by decide +kernel
theorem dX5_drawAs_14 : decode cX5_drawAs 14 = .ok (.iconst 0, 1) := by decide +kernel
theorem dX5_drawAs_15 : decode cX5_drawAs 15 = .ok (.istore 4, 2) := by decide +kernel
theorem dX5_drawAs_17 : decode cX5_drawAs 17 = .ok (.aload_n 0, 1) := by decide +kernel
theorem dX5_drawAs_18 : decode cX5_drawAs 18 = .ok (.aload_n 1, 1) := by decide +kernel
theorem dX5_drawAs_19 : decode cX5_drawAs 19 = .ok (.iload_n 2, 1) := by decide +kernel
theorem dX5_drawAs_20 : decode cX5_drawAs 20 = .ok (.iload 4, 2) := by decide +kernel
theorem dX5_drawAs_22 : decode cX5_drawAs 22 = .ok (.aload_n 0, 1) := by decide +kernel
theorem dX5_drawAs_23 : decode cX5_drawAs 23 = .ok (.getfield 9, 3) := by decide +kernel
theorem dX5_drawAs_26 : decode cX5_drawAs 26 = .ok (.invokevirtual 48, 3) := by decide +kernel
theorem dX5_drawAs_29 : decode cX5_drawAs 29 = .ok (.return_, 1) := by decide +kernel
theorem dX5_bestShiftOf_0 : decode cX5_bestShiftOf 0 = .ok (.iconst 0, 1) := by decide +kernel
theorem dX5_bestShiftOf_1 : decode cX5_bestShiftOf 1 = .ok (.istore_n 3, 1) := by decide +kernel
theorem dX5_bestShiftOf_2 : decode cX5_bestShiftOf 2 = .ok (.ldc 54, 2) := by decide +kernel
theorem dX5_bestShiftOf_4 : decode cX5_bestShiftOf 4 = .ok (.istore 4, 2) := by decide +kernel
theorem dX5_bestShiftOf_6 : decode cX5_bestShiftOf 6 = .ok (.ldc 54, 2) := by decide +kernel
theorem dX5_bestShiftOf_8 : decode cX5_bestShiftOf 8 = .ok (.istore 5, 2) := by decide +kernel
theorem dX5_bestShiftOf_10 : decode cX5_bestShiftOf 10 = .ok (.getstatic 55, 3) := by decide +kernel
theorem dX5_bestShiftOf_13 : decode cX5_bestShiftOf 13 = .ok (.astore 6, 2) := by decide +kernel
theorem dX5_bestShiftOf_15 : decode cX5_bestShiftOf 15 = .ok (.aload 6, 2) := by decide +kernel
theorem dX5_bestShiftOf_17 : decode cX5_bestShiftOf 17 = .ok (.arraylength, 1) := by decide +kernel
theorem dX5_bestShiftOf_18 : decode cX5_bestShiftOf 18 = .ok (.istore 7, 2) := by decide +kernel
theorem dX5_bestShiftOf_20 : decode cX5_bestShiftOf 20 = .ok (.iconst 0, 1) := by decide +kernel
theorem dX5_bestShiftOf_21 : decode cX5_bestShiftOf 21 = .ok (.istore 8, 2) := by decide +kernel
theorem dX5_bestShiftOf_23 : decode cX5_bestShiftOf 23 = .ok (.iload 8, 2) := by decide +kernel
theorem dX5_bestShiftOf_25 : decode cX5_bestShiftOf 25 = .ok (.iload 7, 2) := by decide +kernel
theorem dX5_bestShiftOf_27 : decode cX5_bestShiftOf 27 = .ok (.if_icmp .ge 93, 3) := by decide +kernel
theorem dX5_bestShiftOf_30 : decode cX5_bestShiftOf 30 = .ok (.aload 6, 2) := by decide +kernel
theorem dX5_bestShiftOf_32 : decode cX5_bestShiftOf 32 = .ok (.iload 8, 2) := by decide +kernel
theorem dX5_bestShiftOf_34 : decode cX5_bestShiftOf 34 = .ok (.iaload, 1) := by decide +kernel
theorem dX5_bestShiftOf_35 : decode cX5_bestShiftOf 35 = .ok (.istore 9, 2) := by decide +kernel
theorem dX5_bestShiftOf_37 : decode cX5_bestShiftOf 37 = .ok (.aload_n 0, 1) := by decide +kernel
theorem dX5_bestShiftOf_38 : decode cX5_bestShiftOf 38 = .ok (.aload_n 1, 1) := by decide +kernel
theorem dX5_bestShiftOf_39 : decode cX5_bestShiftOf 39 = .ok (.iload_n 2, 1) := by decide +kernel
theorem dX5_bestShiftOf_40 : decode cX5_bestShiftOf 40 = .ok (.iload 9, 2) := by decide +kernel
theorem dX5_bestShiftOf_42 : decode cX5_bestShiftOf 42 = .ok (.aload_n 0, 1) := by decide +kernel
theorem dX5_bestShiftOf_43 : decode cX5_bestShiftOf 43 = .ok (.getfield 9, 3) := by decide +kernel
theorem dX5_bestShiftOf_46 : decode cX5_bestShiftOf 46 = .ok (.invokevirtual 48, 3) := by decide +kernel
theorem dX5_bestShiftOf_49 : decode cX5_bestShiftOf 49 = .ok (.aload_n 1, 1) := by decide +kernel
theorem dX5_bestShiftOf_50 : decode cX5_bestShiftOf 50 = .ok (.getfield 18, 3) := by decide +kernel
theorem dX5_bestShiftOf_53 : decode cX5_bestShiftOf 53 = .ok (.aload_n 0, 1) := by decide +kernel
theorem dX5_bestShiftOf_54 : decode cX5_bestShiftOf 54 = .ok (.getfield 9, 3) := by decide +kernel
theorem dX5_bestShiftOf_57 : decode cX5_bestShiftOf 57 = .ok (.invokevirtual 58, 3) := by decide +kernel
theorem dX5_bestShiftOf_60 : decode cX5_bestShiftOf 60 = .ok (.istore 10, 2) := by decide +kernel
theorem dX5_bestShiftOf_62 : decode cX5_bestShiftOf 62 = .ok (.aload_n 1, 1) := by decide +kernel
theorem dX5_bestShiftOf_63 : decode cX5_bestShiftOf 63 = .ok (.getfield 18, 3) := by decide +kernel
theorem dX5_bestShiftOf_66 : decode cX5_bestShiftOf 66 = .ok (.aload_n 0, 1) := by decide +kernel
theorem dX5_bestShiftOf_67 : decode cX5_bestShiftOf 67 = .ok (.getfield 9, 3) := by decide +kernel
theorem dX5_bestShiftOf_70 : decode cX5_bestShiftOf 70 = .ok (.aload_n 1, 1) := by decide +kernel
theorem dX5_bestShiftOf_71 : decode cX5_bestShiftOf 71 = .ok (.getfield 18, 3) := by decide +kernel
theorem dX5_bestShiftOf_74 : decode cX5_bestShiftOf 74 = .ok (.getfield 62, 3) := by decide +kernel
theorem dX5_bestShiftOf_77 : decode cX5_bestShiftOf 77 = .ok (.invokevirtual 65, 3) := by decide +kernel
theorem dX5_bestShiftOf_80 : decode cX5_bestShiftOf 80 = .ok (.istore 11, 2) := by decide +kernel
theorem dX5_bestShiftOf_82 : decode cX5_bestShiftOf 82 = .ok (.iload 10, 2) := by decide +kernel
theorem dX5_bestShiftOf_84 : decode cX5_bestShiftOf 84 = .ok (.iload 4, 2) := by decide +kernel
theorem dX5_bestShiftOf_86 : decode cX5_bestShiftOf 86 = .ok (.if_icmp .lt 17, 3) := by decide +kernel
theorem dX5_bestShiftOf_89 : decode cX5_bestShiftOf 89 = .ok (.iload 10, 2) := by decide +kernel
theorem dX5_bestShiftOf_91 : decode cX5_bestShiftOf 91 = .ok (.iload 4, 2) := by decide +kernel
theorem dX5_bestShiftOf_93 : decode cX5_bestShiftOf 93 = .ok (.if_icmp .ne 21, 3) := by decide +kernel
theorem dX5_bestShiftOf_96 : decode cX5_bestShiftOf 96 = .ok (.iload 11, 2) := by decide +kernel
theorem dX5_bestShiftOf_98 : decode cX5_bestShiftOf 98 = .ok (.iload 5, 2) := by decide +kernel
theorem dX5_bestShiftOf_100 : decode cX5_bestShiftOf 100 = .ok (.if_icmp .ge 14, 3) := by decide +kernel
theorem dX5_bestShiftOf_103 : decode cX5_bestShiftOf 103 = .ok (.iload 9, 2) := by decide +kernel
theorem dX5_bestShiftOf_105 : decode cX5_bestShiftOf 105 = .ok (.istore_n 3, 1) := by decide +kernel
theorem dX5_bestShiftOf_106 : decode cX5_bestShiftOf 106 = .ok (.iload 10, 2) := by decide +kernel
theorem dX5_bestShiftOf_108 : decode cX5_bestShiftOf 108 = .ok (.istore 4, 2) := by decide +kernel
theorem dX5_bestShiftOf_110 : decode cX5_bestShiftOf 110 = .ok (.iload 11, 2) := by decide +kernel
theorem dX5_bestShiftOf_112 : decode cX5_bestShiftOf 112 = .ok (.istore 5, 2) := by decide +kernel
theorem dX5_bestShiftOf_114 : decode cX5_bestShiftOf 114 = .ok (.iinc 8 1, 3) := by decide +kernel
theorem dX5_bestShiftOf_117 : decode cX5_bestShiftOf 117 = .ok (.goto (-94), 3) := by decide +kernel
theorem dX5_bestShiftOf_120 : decode cX5_bestShiftOf 120 = .ok (.iload_n 3, 1) := by decide +kernel
theorem dX5_bestShiftOf_121 : decode cX5_bestShiftOf 121 = .ok (.ireturn, 1) := by decide +kernel
theorem dX6_init_0 : decode cX6_init 0 = .ok (.aload_n 0, 1) := by decide +kernel
theorem dX6_init_1 : decode cX6_init 1 = .ok (.invokespecial 3, 3) := by decide +kernel
theorem dX6_init_4 : decode cX6_init 4 = .ok (.aload_n 0, 1) := by decide +kernel
theorem dX6_init_5 : decode cX6_init 5 = .ok (.new 9, 3) := by decide +kernel
theorem dX6_init_8 : decode cX6_init 8 = .ok (.dup, 1) := by decide +kernel
theorem dX6_init_9 : decode cX6_init 9 = .ok (.invokespecial 11, 3) := by decide +kernel
theorem dX6_init_12 : decode cX6_init 12 = .ok (.putfield 12, 3) := by decide +kernel
theorem dX6_init_15 : decode cX6_init 15 = .ok (.aload_n 0, 1) := by decide +kernel
theorem dX6_init_16 : decode cX6_init 16 = .ok (.iconst 0, 1) := by decide +kernel
theorem dX6_init_17 : decode cX6_init 17 = .ok (.putfield 18, 3) := by decide +kernel
theorem dX6_init_20 : decode cX6_init 20 = .ok (.aload_n 0, 1) := by decide +kernel
theorem dX6_init_21 : decode cX6_init 21 = .ok (.iconst 0, 1) := by decide +kernel
theorem dX6_init_22 : decode cX6_init 22 = .ok (.putfield 22, 3) := by decide +kernel
theorem dX6_init_25 : decode cX6_init 25 = .ok (.aload_n 0, 1) := by decide +kernel
theorem dX6_init_26 : decode cX6_init 26 = .ok (.iconst 0, 1) := by decide +kernel
theorem dX6_init_27 : decode cX6_init 27 = .ok (.putfield 25, 3) := by decide +kernel
theorem dX6_init_30 : decode cX6_init 30 = .ok (.aload_n 0, 1) := by decide +kernel
theorem dX6_init_31 : decode cX6_init 31 = .ok (.iconst 0, 1) := by decide +kernel
theorem dX6_init_32 : decode cX6_init 32 = .ok (.putfield 28, 3) := by decide +kernel
theorem dX6_init_35 : decode cX6_init 35 = .ok (.return_, 1) := by decide +kernel
theorem dX6_errorIn_0 : decode cX6_errorIn 0 = .ok (.aload_n 0, 1) := by decide +kernel
theorem dX6_errorIn_1 : decode cX6_errorIn 1 = .ok (.getfield 12, 3) := by decide +kernel
theorem dX6_errorIn_4 : decode cX6_errorIn 4 = .ok (.aload_n 3, 1) := by decide +kernel
theorem dX6_errorIn_5 : decode cX6_errorIn 5 = .ok (.invokevirtual 31, 3) := by decide +kernel
theorem dX6_errorIn_8 : decode cX6_errorIn 8 = .ok (.aload_n 0, 1) := by decide +kernel
theorem dX6_errorIn_9 : decode cX6_errorIn 9 = .ok (.iconst 0, 1) := by decide +kernel
theorem dX6_errorIn_10 : decode cX6_errorIn 10 = .ok (.putfield 18, 3) := by decide +kernel
theorem dX6_errorIn_13 : decode cX6_errorIn 13 = .ok (.aload_n 0, 1) := by decide +kernel
theorem dX6_errorIn_14 : decode cX6_errorIn 14 = .ok (.iconst 0, 1) := by decide +kernel
theorem dX6_errorIn_15 : decode cX6_errorIn 15 = .ok (.putfield 22, 3) := by decide +kernel
theorem dX6_errorIn_18 : decode cX6_errorIn 18 = .ok (.iconst 0, 1) := by decide +kernel
theorem dX6_errorIn_19 : decode cX6_errorIn 19 = .ok (.istore 4, 2) := by decide +kernel
theorem dX6_errorIn_21 : decode cX6_errorIn 21 = .ok (.iload 4, 2) := by decide +kernel
theorem dX6_errorIn_23 : decode cX6_errorIn 23 = .ok (.iload_n 2, 1) := by decide +kernel
theorem dX6_errorIn_24 : decode cX6_errorIn 24 = .ok (.if_icmp .ge 30, 3) := by decide +kernel
theorem dX6_errorIn_27 : decode cX6_errorIn 27 = .ok (.iload 4, 2) := by decide +kernel
theorem dX6_errorIn_29 : decode cX6_errorIn 29 = .ok (.aload_n 1, 1) := by decide +kernel
theorem dX6_errorIn_30 : decode cX6_errorIn 30 = .ok (.arraylength, 1) := by decide +kernel
theorem dX6_errorIn_31 : decode cX6_errorIn 31 = .ok (.if_icmp .ge 23, 3) := by decide +kernel
theorem dX6_errorIn_34 : decode cX6_errorIn 34 = .ok (.aload_n 0, 1) := by decide +kernel
theorem dX6_errorIn_35 : decode cX6_errorIn 35 = .ok (.aload_n 1, 1) := by decide +kernel
theorem dX6_errorIn_36 : decode cX6_errorIn 36 = .ok (.iload 4, 2) := by decide +kernel
theorem dX6_errorIn_38 : decode cX6_errorIn 38 = .ok (.iaload, 1) := by decide +kernel
theorem dX6_errorIn_39 : decode cX6_errorIn 39 = .ok (.invokevirtual 35, 3) := by decide +kernel
theorem dX6_errorIn_42 : decode cX6_errorIn 42 = .ok (.ifCond .ne 6, 3) := by decide +kernel
theorem dX6_errorIn_45 : decode cX6_errorIn 45 = .ok (.iload 4, 2) := by decide +kernel
theorem dX6_errorIn_47 : decode cX6_errorIn 47 = .ok (.ireturn, 1) := by decide +kernel
theorem dX6_errorIn_48 : decode cX6_errorIn 48 = .ok (.iinc 4 1, 3) := by decide +kernel
theorem dX6_errorIn_51 : decode cX6_errorIn 51 = .ok (.goto (-30), 3) := by decide +kernel
theorem dX6_errorIn_54 : decode cX6_errorIn 54 = .ok (.aload_n 0, 1) := by decide +kernel
theorem dX6_errorIn_55 : decode cX6_errorIn 55 = .ok (.getfield 22, 3) := by decide +kernel
theorem dX6_errorIn_58 : decode cX6_errorIn 58 = .ok (.ifCond .ne 7, 3) := by decide +kernel
theorem dX6_errorIn_61 : decode cX6_errorIn 61 = .ok (.iconst (-1), 1) := by decide +kernel
theorem dX6_errorIn_62 : decode cX6_errorIn 62 = .ok (.goto 4, 3) := by decide +kernel
theorem dX6_errorIn_65 : decode cX6_errorIn 65 = .ok (.iload_n 2, 1) := by decide +kernel
theorem dX6_errorIn_66 : decode cX6_errorIn 66 = .ok (.ireturn, 1) := by decide +kernel
theorem dX6_takes_0 : decode cX6_takes 0 = .ok (.iload_n 1, 1) := by decide +kernel
theorem dX6_takes_1 : decode cX6_takes 1 = .ok (.bipush 32, 2) := by decide +kernel
theorem dX6_takes_3 : decode cX6_takes 3 = .ok (.if_icmp .ne 17, 3) := by decide +kernel
theorem dX6_takes_6 : decode cX6_takes 6 = .ok (.aload_n 0, 1) := by decide +kernel
theorem dX6_takes_7 : decode cX6_takes 7 = .ok (.getfield 22, 3) := by decide +kernel
theorem dX6_takes_10 : decode cX6_takes 10 = .ok (.iconst 3, 1) := by decide +kernel
theorem dX6_takes_11 : decode cX6_takes 11 = .ok (.if_icmp .eq 7, 3) := by decide +kernel
theorem dX6_takes_14 : decode cX6_takes 14 = .ok (.iconst 1, 1) := by decide +kernel
theorem dX6_takes_15 : decode cX6_takes 15 = .ok (.goto 4, 3) := by decide +kernel
theorem dX6_takes_18 : decode cX6_takes 18 = .ok (.iconst 0, 1) := by decide +kernel
theorem dX6_takes_19 : decode cX6_takes 19 = .ok (.ireturn, 1) := by decide +kernel
theorem dX6_takes_20 : decode cX6_takes 20 = .ok (.aload_n 0, 1) := by decide +kernel
theorem dX6_takes_21 : decode cX6_takes 21 = .ok (.getfield 22, 3) := by decide +kernel
theorem dX6_takes_24 : decode cX6_takes 24 = .ok (.tableswitch 56 0 3 #[32, 38, 44, 50], 32) := by decide +kernel
theorem dX6_takes_56 : decode cX6_takes 56 = .ok (.aload_n 0, 1) := by decide +kernel
theorem dX6_takes_57 : decode cX6_takes 57 = .ok (.iload_n 1, 1) := by decide +kernel
theorem dX6_takes_58 : decode cX6_takes 58 = .ok (.invokevirtual 39, 3) := by decide +kernel
theorem dX6_takes_61 : decode cX6_takes 61 = .ok (.ireturn, 1) := by decide +kernel
theorem dX6_takes_62 : decode cX6_takes 62 = .ok (.aload_n 0, 1) := by decide +kernel
theorem dX6_takes_63 : decode cX6_takes 63 = .ok (.iload_n 1, 1) := by decide +kernel
theorem dX6_takes_64 : decode cX6_takes 64 = .ok (.invokevirtual 42, 3) := by decide +kernel
theorem dX6_takes_67 : decode cX6_takes 67 = .ok (.ireturn, 1) := by decide +kernel
theorem dX6_takes_68 : decode cX6_takes 68 = .ok (.aload_n 0, 1) := by decide +kernel
theorem dX6_takes_69 : decode cX6_takes 69 = .ok (.iload_n 1, 1) := by decide +kernel
theorem dX6_takes_70 : decode cX6_takes 70 = .ok (.invokevirtual 45, 3) := by decide +kernel
theorem dX6_takes_73 : decode cX6_takes 73 = .ok (.ireturn, 1) := by decide +kernel
theorem dX6_takes_74 : decode cX6_takes 74 = .ok (.aload_n 0, 1) := by decide +kernel
theorem dX6_takes_75 : decode cX6_takes 75 = .ok (.iload_n 1, 1) := by decide +kernel
theorem dX6_takes_76 : decode cX6_takes 76 = .ok (.invokevirtual 48, 3) := by decide +kernel
theorem dX6_takes_79 : decode cX6_takes 79 = .ok (.ireturn, 1) := by decide +kernel
theorem dX6_takes_80 : decode cX6_takes 80 = .ok (.aload_n 0, 1) := by decide +kernel
theorem dX6_takes_81 : decode cX6_takes 81 = .ok (.iload_n 1, 1) := by decide +kernel
theorem dX6_takes_82 : decode cX6_takes 82 = .ok (.invokevirtual 51, 3) := by decide +kernel
theorem dX6_takes_85 : decode cX6_takes 85 = .ok (.ireturn, 1) := by decide +kernel
theorem dX6_takesStart_0 : decode cX6_takesStart 0 = .ok (.iload_n 1, 1) := by decide +kernel
theorem dX6_takesStart_1 : decode cX6_takesStart 1 = .ok (.bipush 62, 2) := by decide +kernel
theorem dX6_takesStart_3 : decode cX6_takesStart 3 = .ok (.if_icmp .ne 29, 3) := by decide +kernel
theorem dX6_takesStart_6 : decode cX6_takesStart 6 = .ok (.aload_n 0, 1) := by decide +kernel
theorem dX6_takesStart_7 : decode cX6_takesStart 7 = .ok (.getfield 12, 3) := by decide +kernel
theorem dX6_takesStart_10 : decode cX6_takesStart 10 = .ok (.getfield 54, 3) := by decide +kernel
theorem dX6_takesStart_13 : decode cX6_takesStart 13 = .ok (.bipush 8, 2) := by decide +kernel
theorem dX6_takesStart_15 : decode cX6_takesStart 15 = .ok (.if_icmp .ge 17, 3) := by decide +kernel
theorem dX6_takesStart_18 : decode cX6_takesStart 18 = .ok (.aload_n 0, 1) := by decide +kernel
theorem dX6_takesStart_19 : decode cX6_takesStart 19 = .ok (.getfield 12, 3) := by decide +kernel
theorem dX6_takesStart_22 : decode cX6_takesStart 22 = .ok (.invokevirtual 57, 3) := by decide +kernel
theorem dX6_takesStart_25 : decode cX6_takesStart 25 = .ok (.aload_n 0, 1) := by decide +kernel
theorem dX6_takesStart_26 : decode cX6_takesStart 26 = .ok (.iconst 4, 1) := by decide +kernel
theorem dX6_takesStart_27 : decode cX6_takesStart 27 = .ok (.putfield 22, 3) := by decide +kernel
theorem dX6_takesStart_30 : decode cX6_takesStart 30 = .ok (.iconst 1, 1) := by decide +kernel
theorem dX6_takesStart_31 : decode cX6_takesStart 31 = .ok (.ireturn, 1) := by decide +kernel
theorem dX6_takesStart_32 : decode cX6_takesStart 32 = .ok (.iload_n 1, 1) := by decide +kernel
theorem dX6_takesStart_33 : decode cX6_takesStart 33 = .ok (.invokestatic 60, 3) := by decide +kernel
theorem dX6_takesStart_36 : decode cX6_takesStart 36 = .ok (.ifCond .ne 5, 3) := by decide +kernel
theorem dX6_takesStart_39 : decode cX6_takesStart 39 = .ok (.iconst 0, 1) := by decide +kernel
theorem dX6_takesStart_40 : decode cX6_takesStart 40 = .ok (.ireturn, 1) := by decide +kernel
theorem dX6_takesStart_41 : decode cX6_takesStart 41 = .ok (.aload_n 0, 1) := by decide +kernel
theorem dX6_takesStart_42 : decode cX6_takesStart 42 = .ok (.iload_n 1, 1) := by decide +kernel
theorem dX6_takesStart_43 : decode cX6_takesStart 43 = .ok (.bipush 97, 2) := by decide +kernel
theorem dX6_takesStart_45 : decode cX6_takesStart 45 = .ok (.isub, 1) := by decide +kernel
theorem dX6_takesStart_46 : decode cX6_takesStart 46 = .ok (.putfield 25, 3) := by decide +kernel
theorem dX6_takesStart_49 : decode cX6_takesStart 49 = .ok (.aload_n 0, 1) := by decide +kernel
theorem dX6_takesStart_50 : decode cX6_takesStart 50 = .ok (.getfield 12, 3) := by decide +kernel
theorem dX6_takesStart_53 : decode cX6_takesStart 53 = .ok (.aload_n 0, 1) := by decide +kernel
theorem dX6_takesStart_54 : decode cX6_takesStart 54 = .ok (.getfield 25, 3) := by decide +kernel
theorem dX6_takesStart_57 : decode cX6_takesStart 57 = .ok (.invokevirtual 63, 3) := by decide +kernel
theorem dX6_takesStart_60 : decode cX6_takesStart 60 = .ok (.aload_n 0, 1) := by decide +kernel
theorem dX6_takesStart_61 : decode cX6_takesStart 61 = .ok (.iconst 1, 1) := by decide +kernel
theorem dX6_takesStart_62 : decode cX6_takesStart 62 = .ok (.putfield 22, 3) := by decide +kernel
theorem dX6_takesStart_65 : decode cX6_takesStart 65 = .ok (.iconst 1, 1) := by decide +kernel
theorem dX6_takesStart_66 : decode cX6_takesStart 66 = .ok (.ireturn, 1) := by decide +kernel
theorem dX6_takesEqualsSign_0 : decode cX6_takesEqualsSign 0 = .ok (.iload_n 1, 1) := by decide +kernel
theorem dX6_takesEqualsSign_1 : decode cX6_takesEqualsSign 1 = .ok (.bipush 61, 2) := by decide +kernel
theorem dX6_takesEqualsSign_3 : decode cX6_takesEqualsSign 3 = .ok (.if_icmp .eq 5, 3) := by decide +kernel
theorem dX6_takesEqualsSign_6 : decode cX6_takesEqualsSign 6 = .ok (.iconst 0, 1) := by decide +kernel
theorem dX6_takesEqualsSign_7 : decode cX6_takesEqualsSign 7 = .ok (.ireturn, 1) := by decide +kernel
theorem dX6_takesEqualsSign_8 : decode cX6_takesEqualsSign 8 = .ok (.aload_n 0, 1) := by decide +kernel
theorem dX6_takesEqualsSign_9 : decode cX6_takesEqualsSign 9 = .ok (.iconst 2, 1) := by decide +kernel
theorem dX6_takesEqualsSign_10 : decode cX6_takesEqualsSign 10 = .ok (.putfield 22, 3) := by decide +kernel
theorem dX6_takesEqualsSign_13 : decode cX6_takesEqualsSign 13 = .ok (.iconst 1, 1) := by decide +kernel
theorem dX6_takesEqualsSign_14 : decode cX6_takesEqualsSign 14 = .ok (.ireturn, 1) := by decide +kernel
theorem dX6_takesFirstDigit_0 : decode cX6_takesFirstDigit 0 = .ok (.aload_n 0, 1) := by decide +kernel
theorem dX6_takesFirstDigit_1 : decode cX6_takesFirstDigit 1 = .ok (.getfield 12, 3) := by decide +kernel
theorem dX6_takesFirstDigit_4 : decode cX6_takesFirstDigit 4 = .ok (.aload_n 0, 1) := by decide +kernel
theorem dX6_takesFirstDigit_5 : decode cX6_takesFirstDigit 5 = .ok (.getfield 25, 3) := by decide +kernel
theorem dX6_takesFirstDigit_8 : decode cX6_takesFirstDigit 8 = .ok (.invokevirtual 67, 3) := by decide +kernel
theorem dX6_takesFirstDigit_11 : decode cX6_takesFirstDigit 11 = .ok (.istore_n 2, 1) := by decide +kernel
theorem dX6_takesFirstDigit_12 : decode cX6_takesFirstDigit 12 = .ok (.iload_n 1, 1) := by decide +kernel
theorem dX6_takesFirstDigit_13 : decode cX6_takesFirstDigit 13 = .ok (.bipush 59, 2) := by decide +kernel
theorem dX6_takesFirstDigit_15 : decode cX6_takesFirstDigit 15 = .ok (.if_icmp .ne 13, 3) := by decide +kernel
theorem dX6_takesFirstDigit_18 : decode cX6_takesFirstDigit 18 = .ok (.iload_n 2, 1) := by decide +kernel
theorem dX6_takesFirstDigit_19 : decode cX6_takesFirstDigit 19 = .ok (.ifCond .le 9, 3) := by decide +kernel
theorem dX6_takesFirstDigit_22 : decode cX6_takesFirstDigit 22 = .ok (.aload_n 0, 1) := by decide +kernel
theorem dX6_takesFirstDigit_23 : decode cX6_takesFirstDigit 23 = .ok (.invokevirtual 71, 3) := by decide +kernel
theorem dX6_takesFirstDigit_26 : decode cX6_takesFirstDigit 26 = .ok (.iconst 1, 1) := by decide +kernel
theorem dX6_takesFirstDigit_27 : decode cX6_takesFirstDigit 27 = .ok (.ireturn, 1) := by decide +kernel
theorem dX6_takesFirstDigit_28 : decode cX6_takesFirstDigit 28 = .ok (.iload_n 1, 1) := by decide +kernel
theorem dX6_takesFirstDigit_29 : decode cX6_takesFirstDigit 29 = .ok (.invokestatic 74, 3) := by decide +kernel
theorem dX6_takesFirstDigit_32 : decode cX6_takesFirstDigit 32 = .ok (.istore_n 3, 1) := by decide +kernel
theorem dX6_takesFirstDigit_33 : decode cX6_takesFirstDigit 33 = .ok (.iload_n 2, 1) := by decide +kernel
theorem dX6_takesFirstDigit_34 : decode cX6_takesFirstDigit 34 = .ok (.iconst 5, 1) := by decide +kernel
theorem dX6_takesFirstDigit_35 : decode cX6_takesFirstDigit 35 = .ok (.if_icmp .ge 13, 3) := by decide +kernel
theorem dX6_takesFirstDigit_38 : decode cX6_takesFirstDigit 38 = .ok (.iload_n 3, 1) := by decide +kernel
theorem dX6_takesFirstDigit_39 : decode cX6_takesFirstDigit 39 = .ok (.ifCond .lt 9, 3) := by decide +kernel
theorem dX6_takesFirstDigit_42 : decode cX6_takesFirstDigit 42 = .ok (.iload_n 3, 1) := by decide +kernel
theorem dX6_takesFirstDigit_43 : decode cX6_takesFirstDigit 43 = .ok (.bipush 7, 2) := by decide +kernel
theorem dX6_takesFirstDigit_45 : decode cX6_takesFirstDigit 45 = .ok (.if_icmp .le 5, 3) := by decide +kernel
theorem dX6_takesFirstDigit_48 : decode cX6_takesFirstDigit 48 = .ok (.iconst 0, 1) := by decide +kernel
theorem dX6_takesFirstDigit_49 : decode cX6_takesFirstDigit 49 = .ok (.ireturn, 1) := by decide +kernel
theorem dX6_takesFirstDigit_50 : decode cX6_takesFirstDigit 50 = .ok (.aload_n 0, 1) := by decide +kernel
theorem dX6_takesFirstDigit_51 : decode cX6_takesFirstDigit 51 = .ok (.iload_n 3, 1) := by decide +kernel
theorem dX6_takesFirstDigit_52 : decode cX6_takesFirstDigit 52 = .ok (.putfield 28, 3) := by decide +kernel
theorem dX6_takesFirstDigit_55 : decode cX6_takesFirstDigit 55 = .ok (.aload_n 0, 1) := by decide +kernel
theorem dX6_takesFirstDigit_56 : decode cX6_takesFirstDigit 56 = .ok (.iconst 3, 1) := by decide +kernel
theorem dX6_takesFirstDigit_57 : decode cX6_takesFirstDigit 57 = .ok (.putfield 22, 3) := by decide +kernel
theorem dX6_takesFirstDigit_60 : decode cX6_takesFirstDigit 60 = .ok (.iconst 1, 1) := by decide +kernel
theorem dX6_takesFirstDigit_61 : decode cX6_takesFirstDigit 61 = .ok (.ireturn, 1) := by decide +kernel
theorem dX6_takesSecondDigit_0 : decode cX6_takesSecondDigit 0 = .ok (.iload_n 1, 1) := by decide +kernel
theorem dX6_takesSecondDigit_1 : decode cX6_takesSecondDigit 1 = .ok (.invokestatic 74, 3) := by decide +kernel
theorem dX6_takesSecondDigit_4 : decode cX6_takesSecondDigit 4 = .ok (.istore_n 2, 1) := by decide +kernel
theorem dX6_takesSecondDigit_5 : decode cX6_takesSecondDigit 5 = .ok (.iload_n 2, 1) := by decide +kernel
theorem dX6_takesSecondDigit_6 : decode cX6_takesSecondDigit 6 = .ok (.ifCond .ge 5, 3) := by decide +kernel
theorem dX6_takesSecondDigit_9 : decode cX6_takesSecondDigit 9 = .ok (.iconst 0, 1) := by decide +kernel
theorem dX6_takesSecondDigit_10 : decode cX6_takesSecondDigit 10 = .ok (.ireturn, 1) := by decide +kernel
theorem dX6_takesSecondDigit_11 : decode cX6_takesSecondDigit 11 = .ok (.aload_n 0, 1) := by decide +kernel
theorem dX6_takesSecondDigit_12 : decode cX6_takesSecondDigit 12 = .ok (.getfield 12, 3) := by decide +kernel
theorem dX6_takesSecondDigit_15 : decode cX6_takesSecondDigit 15 = .ok (.aload_n 0, 1) := by decide +kernel
theorem dX6_takesSecondDigit_16 : decode cX6_takesSecondDigit 16 = .ok (.getfield 25, 3) := by decide +kernel
theorem dX6_takesSecondDigit_19 : decode cX6_takesSecondDigit 19 = .ok (.aload_n 0, 1) := by decide +kernel
theorem dX6_takesSecondDigit_20 : decode cX6_takesSecondDigit 20 = .ok (.getfield 12, 3) := by decide +kernel
theorem dX6_takesSecondDigit_23 : decode cX6_takesSecondDigit 23 = .ok (.aload_n 0, 1) := by decide +kernel
theorem dX6_takesSecondDigit_24 : decode cX6_takesSecondDigit 24 = .ok (.getfield 25, 3) := by decide +kernel
theorem dX6_takesSecondDigit_27 : decode cX6_takesSecondDigit 27 = .ok (.invokevirtual 67, 3) := by decide +kernel
theorem dX6_takesSecondDigit_30 : decode cX6_takesSecondDigit 30 = .ok (.aload_n 0, 1) := by decide +kernel
theorem dX6_takesSecondDigit_31 : decode cX6_takesSecondDigit 31 = .ok (.getfield 28, 3) := by decide +kernel
theorem dX6_takesSecondDigit_34 : decode cX6_takesSecondDigit 34 = .ok (.bipush 16, 2) := by decide +kernel
theorem dX6_takesSecondDigit_36 : decode cX6_takesSecondDigit 36 = .ok (.imul, 1) := by decide +kernel
theorem dX6_takesSecondDigit_37 : decode cX6_takesSecondDigit 37 = .ok (.iload_n 2, 1) := by decide +kernel
theorem dX6_takesSecondDigit_38 : decode cX6_takesSecondDigit 38 = .ok (.iadd, 1) := by decide +kernel
theorem dX6_takesSecondDigit_39 : decode cX6_takesSecondDigit 39 = .ok (.invokevirtual 77, 3) := by decide +kernel
theorem dX6_takesSecondDigit_42 : decode cX6_takesSecondDigit 42 = .ok (.aload_n 0, 1) := by decide +kernel
theorem dX6_takesSecondDigit_43 : decode cX6_takesSecondDigit 43 = .ok (.iconst 2, 1) := by decide +kernel
theorem dX6_takesSecondDigit_44 : decode cX6_takesSecondDigit 44 = .ok (.putfield 22, 3) := by decide +kernel
theorem dX6_takesSecondDigit_47 : decode cX6_takesSecondDigit 47 = .ok (.iconst 1, 1) := by decide +kernel
theorem dX6_takesSecondDigit_48 : decode cX6_takesSecondDigit 48 = .ok (.ireturn, 1) := by decide +kernel
theorem dX6_takesCharacter_0 : decode cX6_takesCharacter 0 = .ok (.aload_n 0, 1) := by decide +kernel
theorem dX6_takesCharacter_1 : decode cX6_takesCharacter 1 = .ok (.getfield 12, 3) := by decide +kernel
theorem dX6_takesCharacter_4 : decode cX6_takesCharacter 4 = .ok (.aload_n 0, 1) := by decide +kernel
theorem dX6_takesCharacter_5 : decode cX6_takesCharacter 5 = .ok (.getfield 12, 3) := by decide +kernel
theorem dX6_takesCharacter_8 : decode cX6_takesCharacter 8 = .ok (.getfield 54, 3) := by decide +kernel
theorem dX6_takesCharacter_11 : decode cX6_takesCharacter 11 = .ok (.iconst 1, 1) := by decide +kernel
theorem dX6_takesCharacter_12 : decode cX6_takesCharacter 12 = .ok (.isub, 1) := by decide +kernel
theorem dX6_takesCharacter_13 : decode cX6_takesCharacter 13 = .ok (.invokevirtual 81, 3) := by decide +kernel
theorem dX6_takesCharacter_16 : decode cX6_takesCharacter 16 = .ok (.istore_n 2, 1) := by decide +kernel
theorem dX6_takesCharacter_17 : decode cX6_takesCharacter 17 = .ok (.iload_n 1, 1) := by decide +kernel
theorem dX6_takesCharacter_18 : decode cX6_takesCharacter 18 = .ok (.bipush 59, 2) := by decide +kernel
theorem dX6_takesCharacter_20 : decode cX6_takesCharacter 20 = .ok (.if_icmp .ne 13, 3) := by decide +kernel
theorem dX6_takesCharacter_23 : decode cX6_takesCharacter 23 = .ok (.iload_n 2, 1) := by decide +kernel
theorem dX6_takesCharacter_24 : decode cX6_takesCharacter 24 = .ok (.ifCond .le 9, 3) := by decide +kernel
theorem dX6_takesCharacter_27 : decode cX6_takesCharacter 27 = .ok (.aload_n 0, 1) := by decide +kernel
theorem dX6_takesCharacter_28 : decode cX6_takesCharacter 28 = .ok (.invokevirtual 71, 3) := by decide +kernel
theorem dX6_takesCharacter_31 : decode cX6_takesCharacter 31 = .ok (.iconst 1, 1) := by decide +kernel
theorem dX6_takesCharacter_32 : decode cX6_takesCharacter 32 = .ok (.ireturn, 1) := by decide +kernel
theorem dX6_takesCharacter_33 : decode cX6_takesCharacter 33 = .ok (.iload_n 2, 1) := by decide +kernel
theorem dX6_takesCharacter_34 : decode cX6_takesCharacter 34 = .ok (.bipush 12, 2) := by decide +kernel
theorem dX6_takesCharacter_36 : decode cX6_takesCharacter 36 = .ok (.if_icmp .ge 16, 3) := by decide +kernel
theorem dX6_takesCharacter_39 : decode cX6_takesCharacter 39 = .ok (.iload_n 1, 1) := by decide +kernel
theorem dX6_takesCharacter_40 : decode cX6_takesCharacter 40 = .ok (.bipush 95, 2) := by decide +kernel
theorem dX6_takesCharacter_42 : decode cX6_takesCharacter 42 = .ok (.if_icmp .eq 12, 3) := by decide +kernel
theorem dX6_takesCharacter_45 : decode cX6_takesCharacter 45 = .ok (.iload_n 1, 1) := by decide +kernel
theorem dX6_takesCharacter_46 : decode cX6_takesCharacter 46 = .ok (.invokestatic 60, 3) := by decide +kernel
theorem dX6_takesCharacter_49 : decode cX6_takesCharacter 49 = .ok (.ifCond .ne 5, 3) := by decide +kernel
theorem dX6_takesCharacter_52 : decode cX6_takesCharacter 52 = .ok (.iconst 0, 1) := by decide +kernel
theorem dX6_takesCharacter_53 : decode cX6_takesCharacter 53 = .ok (.ireturn, 1) := by decide +kernel
theorem dX6_takesCharacter_54 : decode cX6_takesCharacter 54 = .ok (.aload_n 0, 1) := by decide +kernel
theorem dX6_takesCharacter_55 : decode cX6_takesCharacter 55 = .ok (.getfield 12, 3) := by decide +kernel
theorem dX6_takesCharacter_58 : decode cX6_takesCharacter 58 = .ok (.iload_n 1, 1) := by decide +kernel
theorem dX6_takesCharacter_59 : decode cX6_takesCharacter 59 = .ok (.bipush 95, 2) := by decide +kernel
theorem dX6_takesCharacter_61 : decode cX6_takesCharacter 61 = .ok (.if_icmp .ne 8, 3) := by decide +kernel
theorem dX6_takesCharacter_64 : decode cX6_takesCharacter 64 = .ok (.bipush 26, 2) := by decide +kernel
theorem dX6_takesCharacter_66 : decode cX6_takesCharacter 66 = .ok (.goto 7, 3) := by decide +kernel
theorem dX6_takesCharacter_69 : decode cX6_takesCharacter 69 = .ok (.iload_n 1, 1) := by decide +kernel
theorem dX6_takesCharacter_70 : decode cX6_takesCharacter 70 = .ok (.bipush 97, 2) := by decide +kernel
theorem dX6_takesCharacter_72 : decode cX6_takesCharacter 72 = .ok (.isub, 1) := by decide +kernel
theorem dX6_takesCharacter_73 : decode cX6_takesCharacter 73 = .ok (.invokevirtual 84, 3) := by decide +kernel
theorem dX6_takesCharacter_76 : decode cX6_takesCharacter 76 = .ok (.iconst 1, 1) := by decide +kernel
theorem dX6_takesCharacter_77 : decode cX6_takesCharacter 77 = .ok (.ireturn, 1) := by decide +kernel
theorem dX6_endItem_0 : decode cX6_endItem 0 = .ok (.aload_n 0, 1) := by decide +kernel
theorem dX6_endItem_1 : decode cX6_endItem 1 = .ok (.dup, 1) := by decide +kernel
theorem dX6_endItem_2 : decode cX6_endItem 2 = .ok (.getfield 18, 3) := by decide +kernel
theorem dX6_endItem_5 : decode cX6_endItem 5 = .ok (.iconst 1, 1) := by decide +kernel
theorem dX6_endItem_6 : decode cX6_endItem 6 = .ok (.iadd, 1) := by decide +kernel
theorem dX6_endItem_7 : decode cX6_endItem 7 = .ok (.putfield 18, 3) := by decide +kernel
theorem dX6_endItem_10 : decode cX6_endItem 10 = .ok (.aload_n 0, 1) := by decide +kernel
theorem dX6_endItem_11 : decode cX6_endItem 11 = .ok (.iconst 0, 1) := by decide +kernel
theorem dX6_endItem_12 : decode cX6_endItem 12 = .ok (.putfield 22, 3) := by decide +kernel
theorem dX6_endItem_15 : decode cX6_endItem 15 = .ok (.return_, 1) := by decide +kernel
theorem dX6_isSmallLetter_0 : decode cX6_isSmallLetter 0 = .ok (.iload_n 0, 1) := by decide +kernel
theorem dX6_isSmallLetter_1 : decode cX6_isSmallLetter 1 = .ok (.bipush 97, 2) := by decide +kernel
theorem dX6_isSmallLetter_3 : decode cX6_isSmallLetter 3 = .ok (.if_icmp .lt 13, 3) := by decide +kernel
theorem dX6_isSmallLetter_6 : decode cX6_isSmallLetter 6 = .ok (.iload_n 0, 1) := by decide +kernel
theorem dX6_isSmallLetter_7 : decode cX6_isSmallLetter 7 = .ok (.bipush 122, 2) := by decide +kernel
theorem dX6_isSmallLetter_9 : decode cX6_isSmallLetter 9 = .ok (.if_icmp .gt 7, 3) := by decide +kernel
theorem dX6_isSmallLetter_12 : decode cX6_isSmallLetter 12 = .ok (.iconst 1, 1) := by decide +kernel
theorem dX6_isSmallLetter_13 : decode cX6_isSmallLetter 13 = .ok (.goto 4, 3) := by decide +kernel
theorem dX6_isSmallLetter_16 : decode cX6_isSmallLetter 16 = .ok (.iconst 0, 1) := by decide +kernel
theorem dX6_isSmallLetter_17 : decode cX6_isSmallLetter 17 = .ok (.ireturn, 1) := by decide +kernel
theorem dX6_digitOf_0 : decode cX6_digitOf 0 = .ok (.iload_n 0, 1) := by decide +kernel
theorem dX6_digitOf_1 : decode cX6_digitOf 1 = .ok (.bipush 48, 2) := by decide +kernel
theorem dX6_digitOf_3 : decode cX6_digitOf 3 = .ok (.if_icmp .lt 14, 3) := by decide +kernel
theorem dX6_digitOf_6 : decode cX6_digitOf 6 = .ok (.iload_n 0, 1) := by decide +kernel
theorem dX6_digitOf_7 : decode cX6_digitOf 7 = .ok (.bipush 57, 2) := by decide +kernel
theorem dX6_digitOf_9 : decode cX6_digitOf 9 = .ok (.if_icmp .gt 8, 3) := by decide +kernel
theorem dX6_digitOf_12 : decode cX6_digitOf 12 = .ok (.iload_n 0, 1) := by decide +kernel
theorem dX6_digitOf_13 : decode cX6_digitOf 13 = .ok (.bipush 48, 2) := by decide +kernel
theorem dX6_digitOf_15 : decode cX6_digitOf 15 = .ok (.isub, 1) := by decide +kernel
theorem dX6_digitOf_16 : decode cX6_digitOf 16 = .ok (.ireturn, 1) := by decide +kernel
theorem dX6_digitOf_17 : decode cX6_digitOf 17 = .ok (.iload_n 0, 1) := by decide +kernel
theorem dX6_digitOf_18 : decode cX6_digitOf 18 = .ok (.bipush 97, 2) := by decide +kernel
theorem dX6_digitOf_20 : decode cX6_digitOf 20 = .ok (.if_icmp .lt 19, 3) := by decide +kernel
theorem dX6_digitOf_23 : decode cX6_digitOf 23 = .ok (.iload_n 0, 1) := by decide +kernel
theorem dX6_digitOf_24 : decode cX6_digitOf 24 = .ok (.bipush 102, 2) := by decide +kernel
theorem dX6_digitOf_26 : decode cX6_digitOf 26 = .ok (.if_icmp .gt 13, 3) := by decide +kernel
theorem dX6_digitOf_29 : decode cX6_digitOf 29 = .ok (.iload_n 0, 1) := by decide +kernel
theorem dX6_digitOf_30 : decode cX6_digitOf 30 = .ok (.bipush 97, 2) := by decide +kernel
theorem dX6_digitOf_32 : decode cX6_digitOf 32 = .ok (.isub, 1) := by decide +kernel
theorem dX6_digitOf_33 : decode cX6_digitOf 33 = .ok (.bipush 10, 2) := by decide +kernel
theorem dX6_digitOf_35 : decode cX6_digitOf 35 = .ok (.iadd, 1) := by decide +kernel
theorem dX6_digitOf_36 : decode cX6_digitOf 36 = .ok (.goto 4, 3) := by decide +kernel
theorem dX6_digitOf_39 : decode cX6_digitOf 39 = .ok (.iconst (-1), 1) := by decide +kernel
theorem dX6_digitOf_40 : decode cX6_digitOf 40 = .ok (.ireturn, 1) := by decide +kernel
theorem dX7_init_0 : decode cX7_init 0 = .ok (.aload_n 0, 1) := by decide +kernel
theorem dX7_init_1 : decode cX7_init 1 = .ok (.invokespecial 3, 3) := by decide +kernel
theorem dX7_init_4 : decode cX7_init 4 = .ok (.aload_n 0, 1) := by decide +kernel
theorem dX7_init_5 : decode cX7_init 5 = .ok (.sipush 130, 3) := by decide +kernel
theorem dX7_init_8 : decode cX7_init 8 = .ok (.newarray .int, 2) := by decide +kernel
theorem dX7_init_10 : decode cX7_init 10 = .ok (.putfield 9, 3) := by decide +kernel
theorem dX7_init_13 : decode cX7_init 13 = .ok (.aload_n 0, 1) := by decide +kernel
theorem dX7_init_14 : decode cX7_init 14 = .ok (.bipush 26, 2) := by decide +kernel
theorem dX7_init_16 : decode cX7_init 16 = .ok (.newarray .int, 2) := by decide +kernel
theorem dX7_init_18 : decode cX7_init 18 = .ok (.putfield 15, 3) := by decide +kernel
theorem dX7_init_21 : decode cX7_init 21 = .ok (.aload_n 0, 1) := by decide +kernel
theorem dX7_init_22 : decode cX7_init 22 = .ok (.bipush 96, 2) := by decide +kernel
theorem dX7_init_24 : decode cX7_init 24 = .ok (.newarray .int, 2) := by decide +kernel
theorem dX7_init_26 : decode cX7_init 26 = .ok (.putfield 18, 3) := by decide +kernel
theorem dX7_init_29 : decode cX7_init 29 = .ok (.aload_n 0, 1) := by decide +kernel
theorem dX7_init_30 : decode cX7_init 30 = .ok (.bipush 8, 2) := by decide +kernel
theorem dX7_init_32 : decode cX7_init 32 = .ok (.newarray .int, 2) := by decide +kernel
theorem dX7_init_34 : decode cX7_init 34 = .ok (.putfield 21, 3) := by decide +kernel
theorem dX7_init_37 : decode cX7_init 37 = .ok (.aload_n 0, 1) := by decide +kernel
theorem dX7_init_38 : decode cX7_init 38 = .ok (.iconst 0, 1) := by decide +kernel
theorem dX7_init_39 : decode cX7_init 39 = .ok (.putfield 24, 3) := by decide +kernel
theorem dX7_init_42 : decode cX7_init 42 = .ok (.return_, 1) := by decide +kernel
theorem dX7_copyFrom_0 : decode cX7_copyFrom 0 = .ok (.aload_n 1, 1) := by decide +kernel
theorem dX7_copyFrom_1 : decode cX7_copyFrom 1 = .ok (.getfield 9, 3) := by decide +kernel
theorem dX7_copyFrom_4 : decode cX7_copyFrom 4 = .ok (.aload_n 0, 1) := by decide +kernel
theorem dX7_copyFrom_5 : decode cX7_copyFrom 5 = .ok (.getfield 9, 3) := by decide +kernel
theorem dX7_copyFrom_8 : decode cX7_copyFrom 8 = .ok (.invokestatic 28, 3) := by decide +kernel
theorem dX7_copyFrom_11 : decode cX7_copyFrom 11 = .ok (.aload_n 1, 1) := by decide +kernel
theorem dX7_copyFrom_12 : decode cX7_copyFrom 12 = .ok (.getfield 15, 3) := by decide +kernel
theorem dX7_copyFrom_15 : decode cX7_copyFrom 15 = .ok (.aload_n 0, 1) := by decide +kernel
theorem dX7_copyFrom_16 : decode cX7_copyFrom 16 = .ok (.getfield 15, 3) := by decide +kernel
theorem dX7_copyFrom_19 : decode cX7_copyFrom 19 = .ok (.invokestatic 28, 3) := by decide +kernel
theorem dX7_copyFrom_22 : decode cX7_copyFrom 22 = .ok (.aload_n 1, 1) := by decide +kernel
theorem dX7_copyFrom_23 : decode cX7_copyFrom 23 = .ok (.getfield 18, 3) := by decide +kernel
theorem dX7_copyFrom_26 : decode cX7_copyFrom 26 = .ok (.aload_n 0, 1) := by decide +kernel
theorem dX7_copyFrom_27 : decode cX7_copyFrom 27 = .ok (.getfield 18, 3) := by decide +kernel
theorem dX7_copyFrom_30 : decode cX7_copyFrom 30 = .ok (.invokestatic 28, 3) := by decide +kernel
theorem dX7_copyFrom_33 : decode cX7_copyFrom 33 = .ok (.aload_n 1, 1) := by decide +kernel
theorem dX7_copyFrom_34 : decode cX7_copyFrom 34 = .ok (.getfield 21, 3) := by decide +kernel
theorem dX7_copyFrom_37 : decode cX7_copyFrom 37 = .ok (.aload_n 0, 1) := by decide +kernel
theorem dX7_copyFrom_38 : decode cX7_copyFrom 38 = .ok (.getfield 21, 3) := by decide +kernel
theorem dX7_copyFrom_41 : decode cX7_copyFrom 41 = .ok (.invokestatic 28, 3) := by decide +kernel
theorem dX7_copyFrom_44 : decode cX7_copyFrom 44 = .ok (.aload_n 0, 1) := by decide +kernel
theorem dX7_copyFrom_45 : decode cX7_copyFrom 45 = .ok (.aload_n 1, 1) := by decide +kernel
theorem dX7_copyFrom_46 : decode cX7_copyFrom 46 = .ok (.getfield 24, 3) := by decide +kernel
theorem dX7_copyFrom_49 : decode cX7_copyFrom 49 = .ok (.putfield 24, 3) := by decide +kernel
theorem dX7_copyFrom_52 : decode cX7_copyFrom 52 = .ok (.return_, 1) := by decide +kernel
theorem dX7_widthOf_0 : decode cX7_widthOf 0 = .ok (.iload_n 1, 1) := by decide +kernel
theorem dX7_widthOf_1 : decode cX7_widthOf 1 = .ok (.bipush 26, 2) := by decide +kernel
theorem dX7_widthOf_3 : decode cX7_widthOf 3 = .ok (.if_icmp .ne 5, 3) := by decide +kernel
theorem dX7_widthOf_6 : decode cX7_widthOf 6 = .ok (.iconst 2, 1) := by decide +kernel
theorem dX7_widthOf_7 : decode cX7_widthOf 7 = .ok (.ireturn, 1) := by decide +kernel
theorem dX7_widthOf_8 : decode cX7_widthOf 8 = .ok (.aload_n 0, 1) := by decide +kernel
theorem dX7_widthOf_9 : decode cX7_widthOf 9 = .ok (.iload_n 1, 1) := by decide +kernel
theorem dX7_widthOf_10 : decode cX7_widthOf 10 = .ok (.invokevirtual 32, 3) := by decide +kernel
theorem dX7_widthOf_13 : decode cX7_widthOf 13 = .ok (.ifCond .eq 12, 3) := by decide +kernel
theorem dX7_widthOf_16 : decode cX7_widthOf 16 = .ok (.aload_n 0, 1) := by decide +kernel
theorem dX7_widthOf_17 : decode cX7_widthOf 17 = .ok (.getfield 15, 3) := by decide +kernel
theorem dX7_widthOf_20 : decode cX7_widthOf 20 = .ok (.iload_n 1, 1) := by decide +kernel
theorem dX7_widthOf_21 : decode cX7_widthOf 21 = .ok (.iaload, 1) := by decide +kernel
theorem dX7_widthOf_22 : decode cX7_widthOf 22 = .ok (.goto 4, 3) := by decide +kernel
theorem dX7_widthOf_25 : decode cX7_widthOf 25 = .ok (.iconst 0, 1) := by decide +kernel
theorem dX7_widthOf_26 : decode cX7_widthOf 26 = .ok (.ireturn, 1) := by decide +kernel
theorem dX7_columnOf_0 : decode cX7_columnOf 0 = .ok (.aload_n 0, 1) := by decide +kernel
theorem dX7_columnOf_1 : decode cX7_columnOf 1 = .ok (.iload_n 1, 1) := by decide +kernel
theorem dX7_columnOf_2 : decode cX7_columnOf 2 = .ok (.invokevirtual 32, 3) := by decide +kernel
theorem dX7_columnOf_5 : decode cX7_columnOf 5 = .ok (.ifCond .eq 26, 3) := by decide +kernel
theorem dX7_columnOf_8 : decode cX7_columnOf 8 = .ok (.iload_n 2, 1) := by decide +kernel
theorem dX7_columnOf_9 : decode cX7_columnOf 9 = .ok (.ifCond .lt 22, 3) := by decide +kernel
theorem dX7_columnOf_12 : decode cX7_columnOf 12 = .ok (.iload_n 2, 1) := by decide +kernel
theorem dX7_columnOf_13 : decode cX7_columnOf 13 = .ok (.iconst 5, 1) := by decide +kernel
theorem dX7_columnOf_14 : decode cX7_columnOf 14 = .ok (.if_icmp .ge 17, 3) := by decide +kernel
theorem dX7_columnOf_17 : decode cX7_columnOf 17 = .ok (.iload_n 2, 1) := by decide +kernel
theorem dX7_columnOf_18 : decode cX7_columnOf 18 = .ok (.aload_n 0, 1) := by decide +kernel
theorem dX7_columnOf_19 : decode cX7_columnOf 19 = .ok (.getfield 15, 3) := by decide +kernel
theorem dX7_columnOf_22 : decode cX7_columnOf 22 = .ok (.iload_n 1, 1) := by decide +kernel
theorem dX7_columnOf_23 : decode cX7_columnOf 23 = .ok (.iaload, 1) := by decide +kernel
theorem dX7_columnOf_24 : decode cX7_columnOf 24 = .ok (.if_icmp .ge 7, 3) := by decide +kernel
theorem dX7_columnOf_27 : decode cX7_columnOf 27 = .ok (.iconst 1, 1) := by decide +kernel
theorem dX7_columnOf_28 : decode cX7_columnOf 28 = .ok (.goto 4, 3) := by decide +kernel
theorem dX7_columnOf_31 : decode cX7_columnOf 31 = .ok (.iconst 0, 1) := by decide +kernel
theorem dX7_columnOf_32 : decode cX7_columnOf 32 = .ok (.istore_n 3, 1) := by decide +kernel
theorem dX7_columnOf_33 : decode cX7_columnOf 33 = .ok (.iload_n 3, 1) := by decide +kernel
theorem dX7_columnOf_34 : decode cX7_columnOf 34 = .ok (.ifCond .eq 16, 3) := by decide +kernel
theorem dX7_columnOf_37 : decode cX7_columnOf 37 = .ok (.aload_n 0, 1) := by decide +kernel
theorem dX7_columnOf_38 : decode cX7_columnOf 38 = .ok (.getfield 9, 3) := by decide +kernel
theorem dX7_columnOf_41 : decode cX7_columnOf 41 = .ok (.iload_n 1, 1) := by decide +kernel
theorem dX7_columnOf_42 : decode cX7_columnOf 42 = .ok (.iconst 5, 1) := by decide +kernel
theorem dX7_columnOf_43 : decode cX7_columnOf 43 = .ok (.imul, 1) := by decide +kernel
theorem dX7_columnOf_44 : decode cX7_columnOf 44 = .ok (.iload_n 2, 1) := by decide +kernel
theorem dX7_columnOf_45 : decode cX7_columnOf 45 = .ok (.iadd, 1) := by decide +kernel
theorem dX7_columnOf_46 : decode cX7_columnOf 46 = .ok (.iaload, 1) := by decide +kernel
theorem dX7_columnOf_47 : decode cX7_columnOf 47 = .ok (.goto 4, 3) := by decide +kernel
theorem dX7_columnOf_50 : decode cX7_columnOf 50 = .ok (.iconst 0, 1) := by decide +kernel
theorem dX7_columnOf_51 : decode cX7_columnOf 51 = .ok (.ireturn, 1) := by decide +kernel
theorem dX7_putColumn_0 : decode cX7_putColumn 0 = .ok (.aload_n 0, 1) := by decide +kernel
theorem dX7_putColumn_1 : decode cX7_putColumn 1 = .ok (.iload_n 1, 1) := by decide +kernel
theorem dX7_putColumn_2 : decode cX7_putColumn 2 = .ok (.invokevirtual 32, 3) := by decide +kernel
theorem dX7_putColumn_5 : decode cX7_putColumn 5 = .ok (.ifCond .eq 41, 3) := by decide +kernel
theorem dX7_putColumn_8 : decode cX7_putColumn 8 = .ok (.iload_n 2, 1) := by decide +kernel
theorem dX7_putColumn_9 : decode cX7_putColumn 9 = .ok (.ifCond .lt 37, 3) := by decide +kernel
theorem dX7_putColumn_12 : decode cX7_putColumn 12 = .ok (.iload_n 2, 1) := by decide +kernel
theorem dX7_putColumn_13 : decode cX7_putColumn 13 = .ok (.iconst 5, 1) := by decide +kernel
theorem dX7_putColumn_14 : decode cX7_putColumn 14 = .ok (.if_icmp .ge 32, 3) := by decide +kernel
theorem dX7_putColumn_17 : decode cX7_putColumn 17 = .ok (.aload_n 0, 1) := by decide +kernel
theorem dX7_putColumn_18 : decode cX7_putColumn 18 = .ok (.getfield 9, 3) := by decide +kernel
theorem dX7_putColumn_21 : decode cX7_putColumn 21 = .ok (.iload_n 1, 1) := by decide +kernel
theorem dX7_putColumn_22 : decode cX7_putColumn 22 = .ok (.iconst 5, 1) := by decide +kernel
theorem dX7_putColumn_23 : decode cX7_putColumn 23 = .ok (.imul, 1) := by decide +kernel
theorem dX7_putColumn_24 : decode cX7_putColumn 24 = .ok (.iload_n 2, 1) := by decide +kernel
theorem dX7_putColumn_25 : decode cX7_putColumn 25 = .ok (.iadd, 1) := by decide +kernel
theorem dX7_putColumn_26 : decode cX7_putColumn 26 = .ok (.iload_n 3, 1) := by decide +kernel
theorem dX7_putColumn_27 : decode cX7_putColumn 27 = .ok (.iastore, 1) := by decide +kernel
theorem dX7_putColumn_28 : decode cX7_putColumn 28 = .ok (.aload_n 0, 1) := by decide +kernel
theorem dX7_putColumn_29 : decode cX7_putColumn 29 = .ok (.getfield 15, 3) := by decide +kernel
theorem dX7_putColumn_32 : decode cX7_putColumn 32 = .ok (.iload_n 1, 1) := by decide +kernel
theorem dX7_putColumn_33 : decode cX7_putColumn 33 = .ok (.aload_n 0, 1) := by decide +kernel
theorem dX7_putColumn_34 : decode cX7_putColumn 34 = .ok (.getfield 15, 3) := by decide +kernel
theorem dX7_putColumn_37 : decode cX7_putColumn 37 = .ok (.iload_n 1, 1) := by decide +kernel
theorem dX7_putColumn_38 : decode cX7_putColumn 38 = .ok (.iaload, 1) := by decide +kernel
theorem dX7_putColumn_39 : decode cX7_putColumn 39 = .ok (.iload_n 2, 1) := by decide +kernel
theorem dX7_putColumn_40 : decode cX7_putColumn 40 = .ok (.iconst 1, 1) := by decide +kernel
theorem dX7_putColumn_41 : decode cX7_putColumn 41 = .ok (.iadd, 1) := by decide +kernel
theorem dX7_putColumn_42 : decode cX7_putColumn 42 = .ok (.invokestatic 36, 3) := by decide +kernel
theorem dX7_putColumn_45 : decode cX7_putColumn 45 = .ok (.iastore, 1) := by decide +kernel
theorem dX7_putColumn_46 : decode cX7_putColumn 46 = .ok (.return_, 1) := by decide +kernel
theorem dX7_clearLetter_0 : decode cX7_clearLetter 0 = .ok (.aload_n 0, 1) := by decide +kernel
theorem dX7_clearLetter_1 : decode cX7_clearLetter 1 = .ok (.iload_n 1, 1) := by decide +kernel
theorem dX7_clearLetter_2 : decode cX7_clearLetter 2 = .ok (.invokevirtual 32, 3) := by decide +kernel
theorem dX7_clearLetter_5 : decode cX7_clearLetter 5 = .ok (.ifCond .eq 10, 3) := by decide +kernel
theorem dX7_clearLetter_8 : decode cX7_clearLetter 8 = .ok (.aload_n 0, 1) := by decide +kernel
theorem dX7_clearLetter_9 : decode cX7_clearLetter 9 = .ok (.getfield 15, 3) := by decide +kernel
theorem dX7_clearLetter_12 : decode cX7_clearLetter 12 = .ok (.iload_n 1, 1) := by decide +kernel
theorem dX7_clearLetter_13 : decode cX7_clearLetter 13 = .ok (.iconst 0, 1) := by decide +kernel
theorem dX7_clearLetter_14 : decode cX7_clearLetter 14 = .ok (.iastore, 1) := by decide +kernel
theorem dX7_clearLetter_15 : decode cX7_clearLetter 15 = .ok (.return_, 1) := by decide +kernel
theorem dX7_isLetter_0 : decode cX7_isLetter 0 = .ok (.iload_n 1, 1) := by decide +kernel
theorem dX7_isLetter_1 : decode cX7_isLetter 1 = .ok (.ifCond .lt 13, 3) := by decide +kernel
theorem dX7_isLetter_4 : decode cX7_isLetter 4 = .ok (.iload_n 1, 1) := by decide +kernel
theorem dX7_isLetter_5 : decode cX7_isLetter 5 = .ok (.bipush 26, 2) := by decide +kernel
theorem dX7_isLetter_7 : decode cX7_isLetter 7 = .ok (.if_icmp .ge 7, 3) := by decide +kernel
theorem dX7_isLetter_10 : decode cX7_isLetter 10 = .ok (.iconst 1, 1) := by decide +kernel
theorem dX7_isLetter_11 : decode cX7_isLetter 11 = .ok (.goto 4, 3) := by decide +kernel
theorem dX7_isLetter_14 : decode cX7_isLetter 14 = .ok (.iconst 0, 1) := by decide +kernel
theorem dX7_isLetter_15 : decode cX7_isLetter 15 = .ok (.ireturn, 1) := by decide +kernel
theorem dX7_hasMessage_0 : decode cX7_hasMessage 0 = .ok (.iload_n 1, 1) := by decide +kernel
theorem dX7_hasMessage_1 : decode cX7_hasMessage 1 = .ok (.ifCond .lt 21, 3) := by decide +kernel
theorem dX7_hasMessage_4 : decode cX7_hasMessage 4 = .ok (.iload_n 1, 1) := by decide +kernel
theorem dX7_hasMessage_5 : decode cX7_hasMessage 5 = .ok (.aload_n 0, 1) := by decide +kernel
theorem dX7_hasMessage_6 : decode cX7_hasMessage 6 = .ok (.getfield 24, 3) := by decide +kernel
theorem dX7_hasMessage_9 : decode cX7_hasMessage 9 = .ok (.if_icmp .ge 13, 3) := by decide +kernel
theorem dX7_hasMessage_12 : decode cX7_hasMessage 12 = .ok (.iload_n 1, 1) := by decide +kernel
theorem dX7_hasMessage_13 : decode cX7_hasMessage 13 = .ok (.bipush 8, 2) := by decide +kernel
theorem dX7_hasMessage_15 : decode cX7_hasMessage 15 = .ok (.if_icmp .ge 7, 3) := by decide +kernel
theorem dX7_hasMessage_18 : decode cX7_hasMessage 18 = .ok (.iconst 1, 1) := by decide +kernel
theorem dX7_hasMessage_19 : decode cX7_hasMessage 19 = .ok (.goto 4, 3) := by decide +kernel
theorem dX7_hasMessage_22 : decode cX7_hasMessage 22 = .ok (.iconst 0, 1) := by decide +kernel
theorem dX7_hasMessage_23 : decode cX7_hasMessage 23 = .ok (.ireturn, 1) := by decide +kernel
theorem dX7_lengthOf_0 : decode cX7_lengthOf 0 = .ok (.aload_n 0, 1) := by decide +kernel
theorem dX7_lengthOf_1 : decode cX7_lengthOf 1 = .ok (.iload_n 1, 1) := by decide +kernel
theorem dX7_lengthOf_2 : decode cX7_lengthOf 2 = .ok (.invokevirtual 42, 3) := by decide +kernel
theorem dX7_lengthOf_5 : decode cX7_lengthOf 5 = .ok (.ifCond .eq 12, 3) := by decide +kernel
theorem dX7_lengthOf_8 : decode cX7_lengthOf 8 = .ok (.aload_n 0, 1) := by decide +kernel
theorem dX7_lengthOf_9 : decode cX7_lengthOf 9 = .ok (.getfield 21, 3) := by decide +kernel
theorem dX7_lengthOf_12 : decode cX7_lengthOf 12 = .ok (.iload_n 1, 1) := by decide +kernel
theorem dX7_lengthOf_13 : decode cX7_lengthOf 13 = .ok (.iaload, 1) := by decide +kernel
theorem dX7_lengthOf_14 : decode cX7_lengthOf 14 = .ok (.goto 4, 3) := by decide +kernel
theorem dX7_lengthOf_17 : decode cX7_lengthOf 17 = .ok (.iconst 0, 1) := by decide +kernel
theorem dX7_lengthOf_18 : decode cX7_lengthOf 18 = .ok (.ireturn, 1) := by decide +kernel
theorem dX7_characterOf_0 : decode cX7_characterOf 0 = .ok (.aload_n 0, 1) := by decide +kernel
theorem dX7_characterOf_1 : decode cX7_characterOf 1 = .ok (.iload_n 1, 1) := by decide +kernel
theorem dX7_characterOf_2 : decode cX7_characterOf 2 = .ok (.invokevirtual 42, 3) := by decide +kernel
theorem dX7_characterOf_5 : decode cX7_characterOf 5 = .ok (.ifCond .eq 17, 3) := by decide +kernel
theorem dX7_characterOf_8 : decode cX7_characterOf 8 = .ok (.iload_n 2, 1) := by decide +kernel
theorem dX7_characterOf_9 : decode cX7_characterOf 9 = .ok (.ifCond .lt 13, 3) := by decide +kernel
theorem dX7_characterOf_12 : decode cX7_characterOf 12 = .ok (.iload_n 2, 1) := by decide +kernel
theorem dX7_characterOf_13 : decode cX7_characterOf 13 = .ok (.bipush 12, 2) := by decide +kernel
theorem dX7_characterOf_15 : decode cX7_characterOf 15 = .ok (.if_icmp .ge 7, 3) := by decide +kernel
theorem dX7_characterOf_18 : decode cX7_characterOf 18 = .ok (.iconst 1, 1) := by decide +kernel
theorem dX7_characterOf_19 : decode cX7_characterOf 19 = .ok (.goto 4, 3) := by decide +kernel
theorem dX7_characterOf_22 : decode cX7_characterOf 22 = .ok (.iconst 0, 1) := by decide +kernel
theorem dX7_characterOf_23 : decode cX7_characterOf 23 = .ok (.istore_n 3, 1) := by decide +kernel
theorem dX7_characterOf_24 : decode cX7_characterOf 24 = .ok (.iload_n 3, 1) := by decide +kernel
theorem dX7_characterOf_25 : decode cX7_characterOf 25 = .ok (.ifCond .eq 17, 3) := by decide +kernel
theorem dX7_characterOf_28 : decode cX7_characterOf 28 = .ok (.aload_n 0, 1) := by decide +kernel
theorem dX7_characterOf_29 : decode cX7_characterOf 29 = .ok (.getfield 18, 3) := by decide +kernel
theorem dX7_characterOf_32 : decode cX7_characterOf 32 = .ok (.iload_n 1, 1) := by decide +kernel
theorem dX7_characterOf_33 : decode cX7_characterOf 33 = .ok (.bipush 12, 2) := by decide +kernel
theorem dX7_characterOf_35 : decode cX7_characterOf 35 = .ok (.imul, 1) := by decide +kernel
theorem dX7_characterOf_36 : decode cX7_characterOf 36 = .ok (.iload_n 2, 1) := by decide +kernel
theorem dX7_characterOf_37 : decode cX7_characterOf 37 = .ok (.iadd, 1) := by decide +kernel
theorem dX7_characterOf_38 : decode cX7_characterOf 38 = .ok (.iaload, 1) := by decide +kernel
theorem dX7_characterOf_39 : decode cX7_characterOf 39 = .ok (.goto 5, 3) := by decide +kernel
theorem dX7_characterOf_42 : decode cX7_characterOf 42 = .ok (.bipush 26, 2) := by decide +kernel
theorem dX7_characterOf_44 : decode cX7_characterOf 44 = .ok (.ireturn, 1) := by decide +kernel
theorem dX7_startMessage_0 : decode cX7_startMessage 0 = .ok (.aload_n 0, 1) := by decide +kernel
theorem dX7_startMessage_1 : decode cX7_startMessage 1 = .ok (.getfield 24, 3) := by decide +kernel
theorem dX7_startMessage_4 : decode cX7_startMessage 4 = .ok (.ifCond .lt 32, 3) := by decide +kernel
theorem dX7_startMessage_7 : decode cX7_startMessage 7 = .ok (.aload_n 0, 1) := by decide +kernel
theorem dX7_startMessage_8 : decode cX7_startMessage 8 = .ok (.getfield 24, 3) := by decide +kernel
theorem dX7_startMessage_11 : decode cX7_startMessage 11 = .ok (.bipush 8, 2) := by decide +kernel
theorem dX7_startMessage_13 : decode cX7_startMessage 13 = .ok (.if_icmp .ge 23, 3) := by decide +kernel
theorem dX7_startMessage_16 : decode cX7_startMessage 16 = .ok (.aload_n 0, 1) := by decide +kernel
theorem dX7_startMessage_17 : decode cX7_startMessage 17 = .ok (.getfield 21, 3) := by decide +kernel
theorem dX7_startMessage_20 : decode cX7_startMessage 20 = .ok (.aload_n 0, 1) := by decide +kernel
theorem dX7_startMessage_21 : decode cX7_startMessage 21 = .ok (.getfield 24, 3) := by decide +kernel
theorem dX7_startMessage_24 : decode cX7_startMessage 24 = .ok (.iconst 0, 1) := by decide +kernel
theorem dX7_startMessage_25 : decode cX7_startMessage 25 = .ok (.iastore, 1) := by decide +kernel
theorem dX7_startMessage_26 : decode cX7_startMessage 26 = .ok (.aload_n 0, 1) := by decide +kernel
theorem dX7_startMessage_27 : decode cX7_startMessage 27 = .ok (.dup, 1) := by decide +kernel
theorem dX7_startMessage_28 : decode cX7_startMessage 28 = .ok (.getfield 24, 3) := by decide +kernel
theorem dX7_startMessage_31 : decode cX7_startMessage 31 = .ok (.iconst 1, 1) := by decide +kernel
theorem dX7_startMessage_32 : decode cX7_startMessage 32 = .ok (.iadd, 1) := by decide +kernel
theorem dX7_startMessage_33 : decode cX7_startMessage 33 = .ok (.putfield 24, 3) := by decide +kernel
theorem dX7_startMessage_36 : decode cX7_startMessage 36 = .ok (.return_, 1) := by decide +kernel
theorem dX7_addCharacter_0 : decode cX7_addCharacter 0 = .ok (.aload_n 0, 1) := by decide +kernel
theorem dX7_addCharacter_1 : decode cX7_addCharacter 1 = .ok (.getfield 24, 3) := by decide +kernel
theorem dX7_addCharacter_4 : decode cX7_addCharacter 4 = .ok (.iconst 1, 1) := by decide +kernel
theorem dX7_addCharacter_5 : decode cX7_addCharacter 5 = .ok (.isub, 1) := by decide +kernel
theorem dX7_addCharacter_6 : decode cX7_addCharacter 6 = .ok (.istore_n 2, 1) := by decide +kernel
theorem dX7_addCharacter_7 : decode cX7_addCharacter 7 = .ok (.aload_n 0, 1) := by decide +kernel
theorem dX7_addCharacter_8 : decode cX7_addCharacter 8 = .ok (.iload_n 2, 1) := by decide +kernel
theorem dX7_addCharacter_9 : decode cX7_addCharacter 9 = .ok (.invokevirtual 45, 3) := by decide +kernel
theorem dX7_addCharacter_12 : decode cX7_addCharacter 12 = .ok (.istore_n 3, 1) := by decide +kernel
theorem dX7_addCharacter_13 : decode cX7_addCharacter 13 = .ok (.aload_n 0, 1) := by decide +kernel
theorem dX7_addCharacter_14 : decode cX7_addCharacter 14 = .ok (.iload_n 2, 1) := by decide +kernel
theorem dX7_addCharacter_15 : decode cX7_addCharacter 15 = .ok (.invokevirtual 42, 3) := by decide +kernel
theorem dX7_addCharacter_18 : decode cX7_addCharacter 18 = .ok (.ifCond .eq 34, 3) := by decide +kernel
theorem dX7_addCharacter_21 : decode cX7_addCharacter 21 = .ok (.iload_n 3, 1) := by decide +kernel
theorem dX7_addCharacter_22 : decode cX7_addCharacter 22 = .ok (.ifCond .lt 30, 3) := by decide +kernel
theorem dX7_addCharacter_25 : decode cX7_addCharacter 25 = .ok (.iload_n 3, 1) := by decide +kernel
theorem dX7_addCharacter_26 : decode cX7_addCharacter 26 = .ok (.bipush 12, 2) := by decide +kernel
theorem dX7_addCharacter_28 : decode cX7_addCharacter 28 = .ok (.if_icmp .ge 24, 3) := by decide +kernel
theorem dX7_addCharacter_31 : decode cX7_addCharacter 31 = .ok (.aload_n 0, 1) := by decide +kernel
theorem dX7_addCharacter_32 : decode cX7_addCharacter 32 = .ok (.getfield 18, 3) := by decide +kernel
theorem dX7_addCharacter_35 : decode cX7_addCharacter 35 = .ok (.iload_n 2, 1) := by decide +kernel
theorem dX7_addCharacter_36 : decode cX7_addCharacter 36 = .ok (.bipush 12, 2) := by decide +kernel
theorem dX7_addCharacter_38 : decode cX7_addCharacter 38 = .ok (.imul, 1) := by decide +kernel
theorem dX7_addCharacter_39 : decode cX7_addCharacter 39 = .ok (.iload_n 3, 1) := by decide +kernel
theorem dX7_addCharacter_40 : decode cX7_addCharacter 40 = .ok (.iadd, 1) := by decide +kernel
theorem dX7_addCharacter_41 : decode cX7_addCharacter 41 = .ok (.iload_n 1, 1) := by decide +kernel
theorem dX7_addCharacter_42 : decode cX7_addCharacter 42 = .ok (.iastore, 1) := by decide +kernel
theorem dX7_addCharacter_43 : decode cX7_addCharacter 43 = .ok (.aload_n 0, 1) := by decide +kernel
theorem dX7_addCharacter_44 : decode cX7_addCharacter 44 = .ok (.getfield 21, 3) := by decide +kernel
theorem dX7_addCharacter_47 : decode cX7_addCharacter 47 = .ok (.iload_n 2, 1) := by decide +kernel
theorem dX7_addCharacter_48 : decode cX7_addCharacter 48 = .ok (.iload_n 3, 1) := by decide +kernel
theorem dX7_addCharacter_49 : decode cX7_addCharacter 49 = .ok (.iconst 1, 1) := by decide +kernel
theorem dX7_addCharacter_50 : decode cX7_addCharacter 50 = .ok (.iadd, 1) := by decide +kernel
theorem dX7_addCharacter_51 : decode cX7_addCharacter 51 = .ok (.iastore, 1) := by decide +kernel
theorem dX7_addCharacter_52 : decode cX7_addCharacter 52 = .ok (.return_, 1) := by decide +kernel
theorem dX7_dropMessage_0 : decode cX7_dropMessage 0 = .ok (.aload_n 0, 1) := by decide +kernel
theorem dX7_dropMessage_1 : decode cX7_dropMessage 1 = .ok (.iload_n 1, 1) := by decide +kernel
theorem dX7_dropMessage_2 : decode cX7_dropMessage 2 = .ok (.invokevirtual 42, 3) := by decide +kernel
theorem dX7_dropMessage_5 : decode cX7_dropMessage 5 = .ok (.ifCond .ne 4, 3) := by decide +kernel
theorem dX7_dropMessage_8 : decode cX7_dropMessage 8 = .ok (.return_, 1) := by decide +kernel
theorem dX7_dropMessage_9 : decode cX7_dropMessage 9 = .ok (.iload_n 1, 1) := by decide +kernel
theorem dX7_dropMessage_10 : decode cX7_dropMessage 10 = .ok (.istore_n 2, 1) := by decide +kernel
theorem dX7_dropMessage_11 : decode cX7_dropMessage 11 = .ok (.iload_n 2, 1) := by decide +kernel
theorem dX7_dropMessage_12 : decode cX7_dropMessage 12 = .ok (.iconst 1, 1) := by decide +kernel
theorem dX7_dropMessage_13 : decode cX7_dropMessage 13 = .ok (.iadd, 1) := by decide +kernel
theorem dX7_dropMessage_14 : decode cX7_dropMessage 14 = .ok (.bipush 8, 2) := by decide +kernel
theorem dX7_dropMessage_16 : decode cX7_dropMessage 16 = .ok (.if_icmp .ge 65, 3) := by decide +kernel
theorem dX7_dropMessage_19 : decode cX7_dropMessage 19 = .ok (.aload_n 0, 1) := by decide +kernel
theorem dX7_dropMessage_20 : decode cX7_dropMessage 20 = .ok (.getfield 21, 3) := by decide +kernel
theorem dX7_dropMessage_23 : decode cX7_dropMessage 23 = .ok (.iload_n 2, 1) := by decide +kernel
theorem dX7_dropMessage_24 : decode cX7_dropMessage 24 = .ok (.aload_n 0, 1) := by decide +kernel
theorem dX7_dropMessage_25 : decode cX7_dropMessage 25 = .ok (.getfield 21, 3) := by decide +kernel
theorem dX7_dropMessage_28 : decode cX7_dropMessage 28 = .ok (.iload_n 2, 1) := by decide +kernel
theorem dX7_dropMessage_29 : decode cX7_dropMessage 29 = .ok (.iconst 1, 1) := by decide +kernel
theorem dX7_dropMessage_30 : decode cX7_dropMessage 30 = .ok (.iadd, 1) := by decide +kernel
theorem dX7_dropMessage_31 : decode cX7_dropMessage 31 = .ok (.iaload, 1) := by decide +kernel
theorem dX7_dropMessage_32 : decode cX7_dropMessage 32 = .ok (.iastore, 1) := by decide +kernel
theorem dX7_dropMessage_33 : decode cX7_dropMessage 33 = .ok (.iconst 0, 1) := by decide +kernel
theorem dX7_dropMessage_34 : decode cX7_dropMessage 34 = .ok (.istore_n 3, 1) := by decide +kernel
theorem dX7_dropMessage_35 : decode cX7_dropMessage 35 = .ok (.iload_n 3, 1) := by decide +kernel
theorem dX7_dropMessage_36 : decode cX7_dropMessage 36 = .ok (.bipush 12, 2) := by decide +kernel
theorem dX7_dropMessage_38 : decode cX7_dropMessage 38 = .ok (.if_icmp .ge 37, 3) := by decide +kernel
theorem dX7_dropMessage_41 : decode cX7_dropMessage 41 = .ok (.iload_n 2, 1) := by decide +kernel
theorem dX7_dropMessage_42 : decode cX7_dropMessage 42 = .ok (.iconst 1, 1) := by decide +kernel
theorem dX7_dropMessage_43 : decode cX7_dropMessage 43 = .ok (.iadd, 1) := by decide +kernel
theorem dX7_dropMessage_44 : decode cX7_dropMessage 44 = .ok (.bipush 12, 2) := by decide +kernel
theorem dX7_dropMessage_46 : decode cX7_dropMessage 46 = .ok (.imul, 1) := by decide +kernel
theorem dX7_dropMessage_47 : decode cX7_dropMessage 47 = .ok (.iload_n 3, 1) := by decide +kernel
theorem dX7_dropMessage_48 : decode cX7_dropMessage 48 = .ok (.iadd, 1) := by decide +kernel
theorem dX7_dropMessage_49 : decode cX7_dropMessage 49 = .ok (.istore 4, 2) := by decide +kernel
theorem dX7_dropMessage_51 : decode cX7_dropMessage 51 = .ok (.aload_n 0, 1) := by decide +kernel
theorem dX7_dropMessage_52 : decode cX7_dropMessage 52 = .ok (.getfield 18, 3) := by decide +kernel
theorem dX7_dropMessage_55 : decode cX7_dropMessage 55 = .ok (.iload_n 2, 1) := by decide +kernel
theorem dX7_dropMessage_56 : decode cX7_dropMessage 56 = .ok (.bipush 12, 2) := by decide +kernel
theorem dX7_dropMessage_58 : decode cX7_dropMessage 58 = .ok (.imul, 1) := by decide +kernel
theorem dX7_dropMessage_59 : decode cX7_dropMessage 59 = .ok (.iload_n 3, 1) := by decide +kernel
theorem dX7_dropMessage_60 : decode cX7_dropMessage 60 = .ok (.iadd, 1) := by decide +kernel
theorem dX7_dropMessage_61 : decode cX7_dropMessage 61 = .ok (.aload_n 0, 1) := by decide +kernel
theorem dX7_dropMessage_62 : decode cX7_dropMessage 62 = .ok (.getfield 18, 3) := by decide +kernel
theorem dX7_dropMessage_65 : decode cX7_dropMessage 65 = .ok (.iload 4, 2) := by decide +kernel
theorem dX7_dropMessage_67 : decode cX7_dropMessage 67 = .ok (.iaload, 1) := by decide +kernel
theorem dX7_dropMessage_68 : decode cX7_dropMessage 68 = .ok (.iastore, 1) := by decide +kernel
theorem dX7_dropMessage_69 : decode cX7_dropMessage 69 = .ok (.iinc 3 1, 3) := by decide +kernel
theorem dX7_dropMessage_72 : decode cX7_dropMessage 72 = .ok (.goto (-37), 3) := by decide +kernel
theorem dX7_dropMessage_75 : decode cX7_dropMessage 75 = .ok (.iinc 2 1, 3) := by decide +kernel
theorem dX7_dropMessage_78 : decode cX7_dropMessage 78 = .ok (.goto (-67), 3) := by decide +kernel
theorem dX7_dropMessage_81 : decode cX7_dropMessage 81 = .ok (.aload_n 0, 1) := by decide +kernel
theorem dX7_dropMessage_82 : decode cX7_dropMessage 82 = .ok (.dup, 1) := by decide +kernel
theorem dX7_dropMessage_83 : decode cX7_dropMessage 83 = .ok (.getfield 24, 3) := by decide +kernel
theorem dX7_dropMessage_86 : decode cX7_dropMessage 86 = .ok (.iconst 1, 1) := by decide +kernel
theorem dX7_dropMessage_87 : decode cX7_dropMessage 87 = .ok (.isub, 1) := by decide +kernel
theorem dX7_dropMessage_88 : decode cX7_dropMessage 88 = .ok (.putfield 24, 3) := by decide +kernel
theorem dX7_dropMessage_91 : decode cX7_dropMessage 91 = .ok (.return_, 1) := by decide +kernel
theorem dX7_stripColumns_0 : decode cX7_stripColumns 0 = .ok (.aload_n 0, 1) := by decide +kernel
theorem dX7_stripColumns_1 : decode cX7_stripColumns 1 = .ok (.iload_n 1, 1) := by decide +kernel
theorem dX7_stripColumns_2 : decode cX7_stripColumns 2 = .ok (.invokevirtual 45, 3) := by decide +kernel
theorem dX7_stripColumns_5 : decode cX7_stripColumns 5 = .ok (.istore_n 2, 1) := by decide +kernel
theorem dX7_stripColumns_6 : decode cX7_stripColumns 6 = .ok (.iload_n 2, 1) := by decide +kernel
theorem dX7_stripColumns_7 : decode cX7_stripColumns 7 = .ok (.iconst 1, 1) := by decide +kernel
theorem dX7_stripColumns_8 : decode cX7_stripColumns 8 = .ok (.isub, 1) := by decide +kernel
theorem dX7_stripColumns_9 : decode cX7_stripColumns 9 = .ok (.iconst 0, 1) := by decide +kernel
theorem dX7_stripColumns_10 : decode cX7_stripColumns 10 = .ok (.invokestatic 36, 3) := by decide +kernel
theorem dX7_stripColumns_13 : decode cX7_stripColumns 13 = .ok (.istore_n 3, 1) := by decide +kernel
theorem dX7_stripColumns_14 : decode cX7_stripColumns 14 = .ok (.iconst 0, 1) := by decide +kernel
theorem dX7_stripColumns_15 : decode cX7_stripColumns 15 = .ok (.istore 4, 2) := by decide +kernel
theorem dX7_stripColumns_17 : decode cX7_stripColumns 17 = .ok (.iload 4, 2) := by decide +kernel
theorem dX7_stripColumns_19 : decode cX7_stripColumns 19 = .ok (.iload_n 2, 1) := by decide +kernel
theorem dX7_stripColumns_20 : decode cX7_stripColumns 20 = .ok (.if_icmp .ge 23, 3) := by decide +kernel
theorem dX7_stripColumns_23 : decode cX7_stripColumns 23 = .ok (.iload_n 3, 1) := by decide +kernel
theorem dX7_stripColumns_24 : decode cX7_stripColumns 24 = .ok (.aload_n 0, 1) := by decide +kernel
theorem dX7_stripColumns_25 : decode cX7_stripColumns 25 = .ok (.aload_n 0, 1) := by decide +kernel
theorem dX7_stripColumns_26 : decode cX7_stripColumns 26 = .ok (.iload_n 1, 1) := by decide +kernel
theorem dX7_stripColumns_27 : decode cX7_stripColumns 27 = .ok (.iload 4, 2) := by decide +kernel
theorem dX7_stripColumns_29 : decode cX7_stripColumns 29 = .ok (.invokevirtual 49, 3) := by decide +kernel
theorem dX7_stripColumns_32 : decode cX7_stripColumns 32 = .ok (.invokevirtual 52, 3) := by decide +kernel
theorem dX7_stripColumns_35 : decode cX7_stripColumns 35 = .ok (.iadd, 1) := by decide +kernel
theorem dX7_stripColumns_36 : decode cX7_stripColumns 36 = .ok (.istore_n 3, 1) := by decide +kernel
theorem dX7_stripColumns_37 : decode cX7_stripColumns 37 = .ok (.iinc 4 1, 3) := by decide +kernel
theorem dX7_stripColumns_40 : decode cX7_stripColumns 40 = .ok (.goto (-23), 3) := by decide +kernel
theorem dX7_stripColumns_43 : decode cX7_stripColumns 43 = .ok (.iload_n 3, 1) := by decide +kernel
theorem dX7_stripColumns_44 : decode cX7_stripColumns 44 = .ok (.ireturn, 1) := by decide +kernel
theorem dX7_stripBits_0 : decode cX7_stripBits 0 = .ok (.iload_n 2, 1) := by decide +kernel
theorem dX7_stripBits_1 : decode cX7_stripBits 1 = .ok (.istore_n 3, 1) := by decide +kernel
theorem dX7_stripBits_2 : decode cX7_stripBits 2 = .ok (.iconst 0, 1) := by decide +kernel
theorem dX7_stripBits_3 : decode cX7_stripBits 3 = .ok (.istore 4, 2) := by decide +kernel
theorem dX7_stripBits_5 : decode cX7_stripBits 5 = .ok (.iload 4, 2) := by decide +kernel
theorem dX7_stripBits_7 : decode cX7_stripBits 7 = .ok (.aload_n 0, 1) := by decide +kernel
theorem dX7_stripBits_8 : decode cX7_stripBits 8 = .ok (.iload_n 1, 1) := by decide +kernel
theorem dX7_stripBits_9 : decode cX7_stripBits 9 = .ok (.invokevirtual 45, 3) := by decide +kernel
theorem dX7_stripBits_12 : decode cX7_stripBits 12 = .ok (.if_icmp .ge 51, 3) := by decide +kernel
theorem dX7_stripBits_15 : decode cX7_stripBits 15 = .ok (.iload_n 3, 1) := by decide +kernel
theorem dX7_stripBits_16 : decode cX7_stripBits 16 = .ok (.ifCond .lt 47, 3) := by decide +kernel
theorem dX7_stripBits_19 : decode cX7_stripBits 19 = .ok (.aload_n 0, 1) := by decide +kernel
theorem dX7_stripBits_20 : decode cX7_stripBits 20 = .ok (.iload_n 1, 1) := by decide +kernel
theorem dX7_stripBits_21 : decode cX7_stripBits 21 = .ok (.iload 4, 2) := by decide +kernel
theorem dX7_stripBits_23 : decode cX7_stripBits 23 = .ok (.invokevirtual 49, 3) := by decide +kernel
theorem dX7_stripBits_26 : decode cX7_stripBits 26 = .ok (.istore 5, 2) := by decide +kernel
theorem dX7_stripBits_28 : decode cX7_stripBits 28 = .ok (.aload_n 0, 1) := by decide +kernel
theorem dX7_stripBits_29 : decode cX7_stripBits 29 = .ok (.iload 5, 2) := by decide +kernel
theorem dX7_stripBits_31 : decode cX7_stripBits 31 = .ok (.invokevirtual 52, 3) := by decide +kernel
theorem dX7_stripBits_34 : decode cX7_stripBits 34 = .ok (.istore 6, 2) := by decide +kernel
theorem dX7_stripBits_36 : decode cX7_stripBits 36 = .ok (.iload_n 3, 1) := by decide +kernel
theorem dX7_stripBits_37 : decode cX7_stripBits 37 = .ok (.iload 6, 2) := by decide +kernel
theorem dX7_stripBits_39 : decode cX7_stripBits 39 = .ok (.if_icmp .ge 11, 3) := by decide +kernel
theorem dX7_stripBits_42 : decode cX7_stripBits 42 = .ok (.aload_n 0, 1) := by decide +kernel
theorem dX7_stripBits_43 : decode cX7_stripBits 43 = .ok (.iload 5, 2) := by decide +kernel
theorem dX7_stripBits_45 : decode cX7_stripBits 45 = .ok (.iload_n 3, 1) := by decide +kernel
theorem dX7_stripBits_46 : decode cX7_stripBits 46 = .ok (.invokevirtual 55, 3) := by decide +kernel
theorem dX7_stripBits_49 : decode cX7_stripBits 49 = .ok (.ireturn, 1) := by decide +kernel
theorem dX7_stripBits_50 : decode cX7_stripBits 50 = .ok (.iload_n 3, 1) := by decide +kernel
theorem dX7_stripBits_51 : decode cX7_stripBits 51 = .ok (.iload 6, 2) := by decide +kernel
theorem dX7_stripBits_53 : decode cX7_stripBits 53 = .ok (.iconst 1, 1) := by decide +kernel
theorem dX7_stripBits_54 : decode cX7_stripBits 54 = .ok (.iadd, 1) := by decide +kernel
theorem dX7_stripBits_55 : decode cX7_stripBits 55 = .ok (.isub, 1) := by decide +kernel
theorem dX7_stripBits_56 : decode cX7_stripBits 56 = .ok (.istore_n 3, 1) := by decide +kernel
theorem dX7_stripBits_57 : decode cX7_stripBits 57 = .ok (.iinc 4 1, 3) := by decide +kernel
theorem dX7_stripBits_60 : decode cX7_stripBits 60 = .ok (.goto (-55), 3) := by decide +kernel
theorem dX7_stripBits_63 : decode cX7_stripBits 63 = .ok (.iconst 0, 1) := by decide +kernel
theorem dX7_stripBits_64 : decode cX7_stripBits 64 = .ok (.ireturn, 1) := by decide +kernel
theorem dX8_init_0 : decode cX8_init 0 = .ok (.aload_n 0, 1) := by decide +kernel
theorem dX8_init_1 : decode cX8_init 1 = .ok (.invokespecial 3, 3) := by decide +kernel
theorem dX8_init_4 : decode cX8_init 4 = .ok (.aload_n 0, 1) := by decide +kernel
theorem dX8_init_5 : decode cX8_init 5 = .ok (.new 9, 3) := by decide +kernel
theorem dX8_init_8 : decode cX8_init 8 = .ok (.dup, 1) := by decide +kernel
theorem dX8_init_9 : decode cX8_init 9 = .ok (.invokespecial 11, 3) := by decide +kernel
theorem dX8_init_12 : decode cX8_init 12 = .ok (.putfield 12, 3) := by decide +kernel
theorem dX8_init_15 : decode cX8_init 15 = .ok (.aload_n 0, 1) := by decide +kernel
theorem dX8_init_16 : decode cX8_init 16 = .ok (.new 18, 3) := by decide +kernel
theorem dX8_init_19 : decode cX8_init 19 = .ok (.dup, 1) := by decide +kernel
theorem dX8_init_20 : decode cX8_init 20 = .ok (.invokespecial 20, 3) := by decide +kernel
theorem dX8_init_23 : decode cX8_init 23 = .ok (.putfield 21, 3) := by decide +kernel
theorem dX8_init_26 : decode cX8_init 26 = .ok (.aload_n 0, 1) := by decide +kernel
theorem dX8_init_27 : decode cX8_init 27 = .ok (.new 25, 3) := by decide +kernel
theorem dX8_init_30 : decode cX8_init 30 = .ok (.dup, 1) := by decide +kernel
theorem dX8_init_31 : decode cX8_init 31 = .ok (.invokespecial 27, 3) := by decide +kernel
theorem dX8_init_34 : decode cX8_init 34 = .ok (.putfield 28, 3) := by decide +kernel
theorem dX8_init_37 : decode cX8_init 37 = .ok (.aload_n 0, 1) := by decide +kernel
theorem dX8_init_38 : decode cX8_init 38 = .ok (.getstatic 32, 3) := by decide +kernel
theorem dX8_init_41 : decode cX8_init 41 = .ok (.invokevirtual 36, 3) := by decide +kernel
theorem dX8_init_44 : decode cX8_init 44 = .ok (.checkcast 37, 3) := by decide +kernel
theorem dX8_init_47 : decode cX8_init 47 = .ok (.putfield 41, 3) := by decide +kernel
theorem dX8_init_50 : decode cX8_init 50 = .ok (.return_, 1) := by decide +kernel
theorem dX8_copyFrom_0 : decode cX8_copyFrom 0 = .ok (.aload_n 0, 1) := by decide +kernel
theorem dX8_copyFrom_1 : decode cX8_copyFrom 1 = .ok (.getfield 12, 3) := by decide +kernel
theorem dX8_copyFrom_4 : decode cX8_copyFrom 4 = .ok (.aload_n 1, 1) := by decide +kernel
theorem dX8_copyFrom_5 : decode cX8_copyFrom 5 = .ok (.getfield 12, 3) := by decide +kernel
theorem dX8_copyFrom_8 : decode cX8_copyFrom 8 = .ok (.invokevirtual 44, 3) := by decide +kernel
theorem dX8_copyFrom_11 : decode cX8_copyFrom 11 = .ok (.aload_n 0, 1) := by decide +kernel
theorem dX8_copyFrom_12 : decode cX8_copyFrom 12 = .ok (.getfield 21, 3) := by decide +kernel
theorem dX8_copyFrom_15 : decode cX8_copyFrom 15 = .ok (.aload_n 1, 1) := by decide +kernel
theorem dX8_copyFrom_16 : decode cX8_copyFrom 16 = .ok (.getfield 21, 3) := by decide +kernel
theorem dX8_copyFrom_19 : decode cX8_copyFrom 19 = .ok (.invokevirtual 48, 3) := by decide +kernel
theorem dX8_copyFrom_22 : decode cX8_copyFrom 22 = .ok (.aload_n 0, 1) := by decide +kernel
theorem dX8_copyFrom_23 : decode cX8_copyFrom 23 = .ok (.getfield 28, 3) := by decide +kernel
theorem dX8_copyFrom_26 : decode cX8_copyFrom 26 = .ok (.aload_n 1, 1) := by decide +kernel
theorem dX8_copyFrom_27 : decode cX8_copyFrom 27 = .ok (.getfield 28, 3) := by decide +kernel
theorem dX8_copyFrom_30 : decode cX8_copyFrom 30 = .ok (.invokevirtual 51, 3) := by decide +kernel
theorem dX8_copyFrom_33 : decode cX8_copyFrom 33 = .ok (.aload_n 1, 1) := by decide +kernel
theorem dX8_copyFrom_34 : decode cX8_copyFrom 34 = .ok (.getfield 41, 3) := by decide +kernel
theorem dX8_copyFrom_37 : decode cX8_copyFrom 37 = .ok (.aload_n 0, 1) := by decide +kernel
theorem dX8_copyFrom_38 : decode cX8_copyFrom 38 = .ok (.getfield 41, 3) := by decide +kernel
theorem dX8_copyFrom_41 : decode cX8_copyFrom 41 = .ok (.invokestatic 54, 3) := by decide +kernel
theorem dX8_copyFrom_44 : decode cX8_copyFrom 44 = .ok (.return_, 1) := by decide +kernel
theorem dX8_hasNumber_0 : decode cX8_hasNumber 0 = .ok (.iload_n 1, 1) := by decide +kernel
theorem dX8_hasNumber_1 : decode cX8_hasNumber 1 = .ok (.ifCond .lt 16, 3) := by decide +kernel
theorem dX8_hasNumber_4 : decode cX8_hasNumber 4 = .ok (.iload_n 1, 1) := by decide +kernel
theorem dX8_hasNumber_5 : decode cX8_hasNumber 5 = .ok (.aload_n 0, 1) := by decide +kernel
theorem dX8_hasNumber_6 : decode cX8_hasNumber 6 = .ok (.getfield 41, 3) := by decide +kernel
theorem dX8_hasNumber_9 : decode cX8_hasNumber 9 = .ok (.arraylength, 1) := by decide +kernel
theorem dX8_hasNumber_10 : decode cX8_hasNumber 10 = .ok (.if_icmp .ge 7, 3) := by decide +kernel
theorem dX8_hasNumber_13 : decode cX8_hasNumber 13 = .ok (.iconst 1, 1) := by decide +kernel
theorem dX8_hasNumber_14 : decode cX8_hasNumber 14 = .ok (.goto 4, 3) := by decide +kernel
theorem dX8_hasNumber_17 : decode cX8_hasNumber 17 = .ok (.iconst 0, 1) := by decide +kernel
theorem dX8_hasNumber_18 : decode cX8_hasNumber 18 = .ok (.ireturn, 1) := by decide +kernel
theorem dX8_tryDot_0 : decode cX8_tryDot 0 = .ok (.aload_n 0, 1) := by decide +kernel
theorem dX8_tryDot_1 : decode cX8_tryDot 1 = .ok (.getfield 12, 3) := by decide +kernel
theorem dX8_tryDot_4 : decode cX8_tryDot 4 = .ok (.iload_n 1, 1) := by decide +kernel
theorem dX8_tryDot_5 : decode cX8_tryDot 5 = .ok (.iload_n 2, 1) := by decide +kernel
theorem dX8_tryDot_6 : decode cX8_tryDot 6 = .ok (.invokevirtual 58, 3) := by decide +kernel
theorem dX8_tryDot_9 : decode cX8_tryDot 9 = .ok (.ifCond .eq 26, 3) := by decide +kernel
theorem dX8_tryDot_12 : decode cX8_tryDot 12 = .ok (.aload_n 0, 1) := by decide +kernel
theorem dX8_tryDot_13 : decode cX8_tryDot 13 = .ok (.getfield 12, 3) := by decide +kernel
theorem dX8_tryDot_16 : decode cX8_tryDot 16 = .ok (.iload_n 1, 1) := by decide +kernel
theorem dX8_tryDot_17 : decode cX8_tryDot 17 = .ok (.iload_n 2, 1) := by decide +kernel
theorem dX8_tryDot_18 : decode cX8_tryDot 18 = .ok (.invokevirtual 62, 3) := by decide +kernel
theorem dX8_tryDot_21 : decode cX8_tryDot 21 = .ok (.aload_n 0, 1) := by decide +kernel
theorem dX8_tryDot_22 : decode cX8_tryDot 22 = .ok (.getfield 21, 3) := by decide +kernel
theorem dX8_tryDot_25 : decode cX8_tryDot 25 = .ok (.dup, 1) := by decide +kernel
theorem dX8_tryDot_26 : decode cX8_tryDot 26 = .ok (.getfield 66, 3) := by decide +kernel
theorem dX8_tryDot_29 : decode cX8_tryDot 29 = .ok (.iconst 1, 1) := by decide +kernel
theorem dX8_tryDot_30 : decode cX8_tryDot 30 = .ok (.iadd, 1) := by decide +kernel
theorem dX8_tryDot_31 : decode cX8_tryDot 31 = .ok (.putfield 66, 3) := by decide +kernel
theorem dX8_tryDot_34 : decode cX8_tryDot 34 = .ok (.return_, 1) := by decide +kernel
theorem dX8_tryDot_35 : decode cX8_tryDot 35 = .ok (.aload_n 0, 1) := by decide +kernel
theorem dX8_tryDot_36 : decode cX8_tryDot 36 = .ok (.getfield 12, 3) := by decide +kernel
theorem dX8_tryDot_39 : decode cX8_tryDot 39 = .ok (.iload_n 1, 1) := by decide +kernel
theorem dX8_tryDot_40 : decode cX8_tryDot 40 = .ok (.iload_n 2, 1) := by decide +kernel
theorem dX8_tryDot_41 : decode cX8_tryDot 41 = .ok (.invokevirtual 70, 3) := by decide +kernel
theorem dX8_tryDot_44 : decode cX8_tryDot 44 = .ok (.aload_n 0, 1) := by decide +kernel
theorem dX8_tryDot_45 : decode cX8_tryDot 45 = .ok (.getfield 21, 3) := by decide +kernel
theorem dX8_tryDot_48 : decode cX8_tryDot 48 = .ok (.dup, 1) := by decide +kernel
theorem dX8_tryDot_49 : decode cX8_tryDot 49 = .ok (.getfield 73, 3) := by decide +kernel
theorem dX8_tryDot_52 : decode cX8_tryDot 52 = .ok (.iconst 1, 1) := by decide +kernel
theorem dX8_tryDot_53 : decode cX8_tryDot 53 = .ok (.iadd, 1) := by decide +kernel
theorem dX8_tryDot_54 : decode cX8_tryDot 54 = .ok (.putfield 73, 3) := by decide +kernel
theorem dX8_tryDot_57 : decode cX8_tryDot 57 = .ok (.aload_n 0, 1) := by decide +kernel
theorem dX8_tryDot_58 : decode cX8_tryDot 58 = .ok (.getfield 12, 3) := by decide +kernel
theorem dX8_tryDot_61 : decode cX8_tryDot 61 = .ok (.iload_n 1, 1) := by decide +kernel
theorem dX8_tryDot_62 : decode cX8_tryDot 62 = .ok (.iload_n 2, 1) := by decide +kernel
theorem dX8_tryDot_63 : decode cX8_tryDot 63 = .ok (.invokevirtual 76, 3) := by decide +kernel
theorem dX8_tryDot_66 : decode cX8_tryDot 66 = .ok (.aload_n 0, 1) := by decide +kernel
theorem dX8_tryDot_67 : decode cX8_tryDot 67 = .ok (.getfield 41, 3) := by decide +kernel
theorem dX8_tryDot_70 : decode cX8_tryDot 70 = .ok (.iconst 2, 1) := by decide +kernel
theorem dX8_tryDot_71 : decode cX8_tryDot 71 = .ok (.iaload, 1) := by decide +kernel
theorem dX8_tryDot_72 : decode cX8_tryDot 72 = .ok (.if_icmp .lt 12, 3) := by decide +kernel
theorem dX8_tryDot_75 : decode cX8_tryDot 75 = .ok (.aload_n 0, 1) := by decide +kernel
theorem dX8_tryDot_76 : decode cX8_tryDot 76 = .ok (.getfield 12, 3) := by decide +kernel
theorem dX8_tryDot_79 : decode cX8_tryDot 79 = .ok (.iload_n 1, 1) := by decide +kernel
theorem dX8_tryDot_80 : decode cX8_tryDot 80 = .ok (.iload_n 2, 1) := by decide +kernel
theorem dX8_tryDot_81 : decode cX8_tryDot 81 = .ok (.invokevirtual 80, 3) := by decide +kernel
theorem dX8_tryDot_84 : decode cX8_tryDot 84 = .ok (.return_, 1) := by decide +kernel
theorem dX9_init_0 : decode cX9_init 0 = .ok (.aload_n 0, 1) := by decide +kernel
theorem dX9_init_1 : decode cX9_init 1 = .ok (.invokespecial 1, 3) := by decide +kernel
theorem dX9_init_4 : decode cX9_init 4 = .ok (.aload_n 0, 1) := by decide +kernel
theorem dX9_init_5 : decode cX9_init 5 = .ok (.new 7, 3) := by decide +kernel
theorem dX9_init_8 : decode cX9_init 8 = .ok (.dup, 1) := by decide +kernel
theorem dX9_init_9 : decode cX9_init 9 = .ok (.invokespecial 9, 3) := by decide +kernel
theorem dX9_init_12 : decode cX9_init 12 = .ok (.putfield 10, 3) := by decide +kernel
theorem dX9_init_15 : decode cX9_init 15 = .ok (.aload_n 0, 1) := by decide +kernel
theorem dX9_init_16 : decode cX9_init 16 = .ok (.new 7, 3) := by decide +kernel
theorem dX9_init_19 : decode cX9_init 19 = .ok (.dup, 1) := by decide +kernel
theorem dX9_init_20 : decode cX9_init 20 = .ok (.invokespecial 9, 3) := by decide +kernel
theorem dX9_init_23 : decode cX9_init 23 = .ok (.putfield 16, 3) := by decide +kernel
theorem dX9_init_26 : decode cX9_init 26 = .ok (.aload_n 0, 1) := by decide +kernel
theorem dX9_init_27 : decode cX9_init 27 = .ok (.new 19, 3) := by decide +kernel
theorem dX9_init_30 : decode cX9_init 30 = .ok (.dup, 1) := by decide +kernel
theorem dX9_init_31 : decode cX9_init 31 = .ok (.invokespecial 21, 3) := by decide +kernel
theorem dX9_init_34 : decode cX9_init 34 = .ok (.putfield 22, 3) := by decide +kernel
theorem dX9_init_37 : decode cX9_init 37 = .ok (.aload_n 0, 1) := by decide +kernel
theorem dX9_init_38 : decode cX9_init 38 = .ok (.new 26, 3) := by decide +kernel
theorem dX9_init_41 : decode cX9_init 41 = .ok (.dup, 1) := by decide +kernel
theorem dX9_init_42 : decode cX9_init 42 = .ok (.invokespecial 28, 3) := by decide +kernel
theorem dX9_init_45 : decode cX9_init 45 = .ok (.putfield 29, 3) := by decide +kernel
theorem dX9_init_48 : decode cX9_init 48 = .ok (.aload_n 0, 1) := by decide +kernel
theorem dX9_init_49 : decode cX9_init 49 = .ok (.new 33, 3) := by decide +kernel
theorem dX9_init_52 : decode cX9_init 52 = .ok (.dup, 1) := by decide +kernel
theorem dX9_init_53 : decode cX9_init 53 = .ok (.invokespecial 35, 3) := by decide +kernel
theorem dX9_init_56 : decode cX9_init 56 = .ok (.putfield 36, 3) := by decide +kernel
theorem dX9_init_59 : decode cX9_init 59 = .ok (.aload_n 0, 1) := by decide +kernel
theorem dX9_init_60 : decode cX9_init 60 = .ok (.new 40, 3) := by decide +kernel
theorem dX9_init_63 : decode cX9_init 63 = .ok (.dup, 1) := by decide +kernel
theorem dX9_init_64 : decode cX9_init 64 = .ok (.invokespecial 42, 3) := by decide +kernel
theorem dX9_init_67 : decode cX9_init 67 = .ok (.putfield 43, 3) := by decide +kernel
theorem dX9_init_70 : decode cX9_init 70 = .ok (.aload_n 0, 1) := by decide +kernel
theorem dX9_init_71 : decode cX9_init 71 = .ok (.new 47, 3) := by decide +kernel
theorem dX9_init_74 : decode cX9_init 74 = .ok (.dup, 1) := by decide +kernel
theorem dX9_init_75 : decode cX9_init 75 = .ok (.invokespecial 49, 3) := by decide +kernel
theorem dX9_init_78 : decode cX9_init 78 = .ok (.putfield 50, 3) := by decide +kernel
theorem dX9_init_81 : decode cX9_init 81 = .ok (.aload_n 0, 1) := by decide +kernel
theorem dX9_init_82 : decode cX9_init 82 = .ok (.bipush 120, 2) := by decide +kernel
theorem dX9_init_84 : decode cX9_init 84 = .ok (.newarray .int, 2) := by decide +kernel
theorem dX9_init_86 : decode cX9_init 86 = .ok (.putfield 54, 3) := by decide +kernel
theorem dX9_init_89 : decode cX9_init 89 = .ok (.aload_n 0, 1) := by decide +kernel
theorem dX9_init_90 : decode cX9_init 90 = .ok (.iconst 0, 1) := by decide +kernel
theorem dX9_init_91 : decode cX9_init 91 = .ok (.putfield 58, 3) := by decide +kernel
theorem dX9_init_94 : decode cX9_init 94 = .ok (.return_, 1) := by decide +kernel
theorem dX9_begin_0 : decode cX9_begin 0 = .ok (.iload_n 1, 1) := by decide +kernel
theorem dX9_begin_1 : decode cX9_begin 1 = .ok (.bipush 6, 2) := by decide +kernel
theorem dX9_begin_3 : decode cX9_begin 3 = .ok (.if_icmp .lt 9, 3) := by decide +kernel
theorem dX9_begin_6 : decode cX9_begin 6 = .ok (.iload_n 1, 1) := by decide +kernel
theorem dX9_begin_7 : decode cX9_begin 7 = .ok (.bipush 40, 2) := by decide +kernel
theorem dX9_begin_9 : decode cX9_begin 9 = .ok (.if_icmp .le 7, 3) := by decide +kernel
theorem dX9_begin_12 : decode cX9_begin 12 = .ok (.sipush (-1001), 3) := by decide +kernel
theorem dX9_begin_15 : decode cX9_begin 15 = .ok (.ireturn, 1) := by decide +kernel
theorem dX9_begin_16 : decode cX9_begin 16 = .ok (.aload_n 0, 1) := by decide +kernel
theorem dX9_begin_17 : decode cX9_begin 17 = .ok (.getfield 22, 3) := by decide +kernel
theorem dX9_begin_20 : decode cX9_begin 20 = .ok (.aload_n 0, 1) := by decide +kernel
theorem dX9_begin_21 : decode cX9_begin 21 = .ok (.getfield 10, 3) := by decide +kernel
theorem dX9_begin_24 : decode cX9_begin 24 = .ok (.invokevirtual 62, 3) := by decide +kernel
theorem dX9_begin_27 : decode cX9_begin 27 = .ok (.aload_n 0, 1) := by decide +kernel
theorem dX9_begin_28 : decode cX9_begin 28 = .ok (.getfield 10, 3) := by decide +kernel
theorem dX9_begin_31 : decode cX9_begin 31 = .ok (.getfield 66, 3) := by decide +kernel
theorem dX9_begin_34 : decode cX9_begin 34 = .ok (.getfield 70, 3) := by decide +kernel
theorem dX9_begin_37 : decode cX9_begin 37 = .ok (.istore_n 2, 1) := by decide +kernel
theorem dX9_begin_38 : decode cX9_begin 38 = .ok (.aload_n 0, 1) := by decide +kernel
theorem dX9_begin_39 : decode cX9_begin 39 = .ok (.getfield 10, 3) := by decide +kernel
theorem dX9_begin_42 : decode cX9_begin 42 = .ok (.getfield 66, 3) := by decide +kernel
theorem dX9_begin_45 : decode cX9_begin 45 = .ok (.iload_n 1, 1) := by decide +kernel
theorem dX9_begin_46 : decode cX9_begin 46 = .ok (.invokevirtual 75, 3) := by decide +kernel
theorem dX9_begin_49 : decode cX9_begin 49 = .ok (.aload_n 0, 1) := by decide +kernel
theorem dX9_begin_50 : decode cX9_begin 50 = .ok (.getfield 10, 3) := by decide +kernel
theorem dX9_begin_53 : decode cX9_begin 53 = .ok (.getfield 79, 3) := by decide +kernel
theorem dX9_begin_56 : decode cX9_begin 56 = .ok (.invokevirtual 83, 3) := by decide +kernel
theorem dX9_begin_59 : decode cX9_begin 59 = .ok (.iload_n 2, 1) := by decide +kernel
theorem dX9_begin_60 : decode cX9_begin 60 = .ok (.ireturn, 1) := by decide +kernel
theorem dX9_setNumber_0 : decode cX9_setNumber 0 = .ok (.aload_n 0, 1) := by decide +kernel
theorem dX9_setNumber_1 : decode cX9_setNumber 1 = .ok (.getfield 10, 3) := by decide +kernel
theorem dX9_setNumber_4 : decode cX9_setNumber 4 = .ok (.iload_n 1, 1) := by decide +kernel
theorem dX9_setNumber_5 : decode cX9_setNumber 5 = .ok (.invokevirtual 87, 3) := by decide +kernel
theorem dX9_setNumber_8 : decode cX9_setNumber 8 = .ok (.ifCond .eq 21, 3) := by decide +kernel
theorem dX9_setNumber_11 : decode cX9_setNumber 11 = .ok (.iload_n 2, 1) := by decide +kernel
theorem dX9_setNumber_12 : decode cX9_setNumber 12 = .ok (.getstatic 91, 3) := by decide +kernel
theorem dX9_setNumber_15 : decode cX9_setNumber 15 = .ok (.iload_n 1, 1) := by decide +kernel
theorem dX9_setNumber_16 : decode cX9_setNumber 16 = .ok (.iaload, 1) := by decide +kernel
theorem dX9_setNumber_17 : decode cX9_setNumber 17 = .ok (.if_icmp .lt 12, 3) := by decide +kernel
theorem dX9_setNumber_20 : decode cX9_setNumber 20 = .ok (.iload_n 2, 1) := by decide +kernel
theorem dX9_setNumber_21 : decode cX9_setNumber 21 = .ok (.getstatic 94, 3) := by decide +kernel
theorem dX9_setNumber_24 : decode cX9_setNumber 24 = .ok (.iload_n 1, 1) := by decide +kernel
theorem dX9_setNumber_25 : decode cX9_setNumber 25 = .ok (.iaload, 1) := by decide +kernel
theorem dX9_setNumber_26 : decode cX9_setNumber 26 = .ok (.if_icmp .le 7, 3) := by decide +kernel
theorem dX9_setNumber_29 : decode cX9_setNumber 29 = .ok (.sipush (-1001), 3) := by decide +kernel
theorem dX9_setNumber_32 : decode cX9_setNumber 32 = .ok (.ireturn, 1) := by decide +kernel
theorem dX9_setNumber_33 : decode cX9_setNumber 33 = .ok (.aload_n 0, 1) := by decide +kernel
theorem dX9_setNumber_34 : decode cX9_setNumber 34 = .ok (.getfield 22, 3) := by decide +kernel
theorem dX9_setNumber_37 : decode cX9_setNumber 37 = .ok (.aload_n 0, 1) := by decide +kernel
theorem dX9_setNumber_38 : decode cX9_setNumber 38 = .ok (.getfield 10, 3) := by decide +kernel
theorem dX9_setNumber_41 : decode cX9_setNumber 41 = .ok (.invokevirtual 62, 3) := by decide +kernel
theorem dX9_setNumber_44 : decode cX9_setNumber 44 = .ok (.aload_n 0, 1) := by decide +kernel
theorem dX9_setNumber_45 : decode cX9_setNumber 45 = .ok (.getfield 10, 3) := by decide +kernel
theorem dX9_setNumber_48 : decode cX9_setNumber 48 = .ok (.getfield 97, 3) := by decide +kernel
theorem dX9_setNumber_51 : decode cX9_setNumber 51 = .ok (.iload_n 1, 1) := by decide +kernel
theorem dX9_setNumber_52 : decode cX9_setNumber 52 = .ok (.iaload, 1) := by decide +kernel
theorem dX9_setNumber_53 : decode cX9_setNumber 53 = .ok (.istore_n 3, 1) := by decide +kernel
theorem dX9_setNumber_54 : decode cX9_setNumber 54 = .ok (.aload_n 0, 1) := by decide +kernel
theorem dX9_setNumber_55 : decode cX9_setNumber 55 = .ok (.getfield 10, 3) := by decide +kernel
theorem dX9_setNumber_58 : decode cX9_setNumber 58 = .ok (.getfield 97, 3) := by decide +kernel
theorem dX9_setNumber_61 : decode cX9_setNumber 61 = .ok (.iload_n 1, 1) := by decide +kernel
theorem dX9_setNumber_62 : decode cX9_setNumber 62 = .ok (.iload_n 2, 1) := by decide +kernel
theorem dX9_setNumber_63 : decode cX9_setNumber 63 = .ok (.iastore, 1) := by decide +kernel
theorem dX9_setNumber_64 : decode cX9_setNumber 64 = .ok (.iload_n 3, 1) := by decide +kernel
theorem dX9_setNumber_65 : decode cX9_setNumber 65 = .ok (.ireturn, 1) := by decide +kernel
theorem dX9_setColumn_0 : decode cX9_setColumn 0 = .ok (.iload_n 1, 1) := by decide +kernel
theorem dX9_setColumn_1 : decode cX9_setColumn 1 = .ok (.ifCond .lt 19, 3) := by decide +kernel
theorem dX9_setColumn_4 : decode cX9_setColumn 4 = .ok (.iload_n 1, 1) := by decide +kernel
theorem dX9_setColumn_5 : decode cX9_setColumn 5 = .ok (.bipush 26, 2) := by decide +kernel
theorem dX9_setColumn_7 : decode cX9_setColumn 7 = .ok (.if_icmp .ge 13, 3) := by decide +kernel
theorem dX9_setColumn_10 : decode cX9_setColumn 10 = .ok (.iload_n 3, 1) := by decide +kernel
theorem dX9_setColumn_11 : decode cX9_setColumn 11 = .ok (.ifCond .lt 9, 3) := by decide +kernel
theorem dX9_setColumn_14 : decode cX9_setColumn 14 = .ok (.iload_n 3, 1) := by decide +kernel
theorem dX9_setColumn_15 : decode cX9_setColumn 15 = .ok (.bipush 127, 2) := by decide +kernel
theorem dX9_setColumn_17 : decode cX9_setColumn 17 = .ok (.if_icmp .le 7, 3) := by decide +kernel
theorem dX9_setColumn_20 : decode cX9_setColumn 20 = .ok (.sipush (-1001), 3) := by decide +kernel
theorem dX9_setColumn_23 : decode cX9_setColumn 23 = .ok (.ireturn, 1) := by decide +kernel
theorem dX9_setColumn_24 : decode cX9_setColumn 24 = .ok (.iload_n 2, 1) := by decide +kernel
theorem dX9_setColumn_25 : decode cX9_setColumn 25 = .ok (.ifCond .lt 23, 3) := by decide +kernel
theorem dX9_setColumn_28 : decode cX9_setColumn 28 = .ok (.iload_n 2, 1) := by decide +kernel
theorem dX9_setColumn_29 : decode cX9_setColumn 29 = .ok (.iconst 5, 1) := by decide +kernel
theorem dX9_setColumn_30 : decode cX9_setColumn 30 = .ok (.if_icmp .ge 18, 3) := by decide +kernel
theorem dX9_setColumn_33 : decode cX9_setColumn 33 = .ok (.iload_n 2, 1) := by decide +kernel
theorem dX9_setColumn_34 : decode cX9_setColumn 34 = .ok (.aload_n 0, 1) := by decide +kernel
theorem dX9_setColumn_35 : decode cX9_setColumn 35 = .ok (.getfield 10, 3) := by decide +kernel
theorem dX9_setColumn_38 : decode cX9_setColumn 38 = .ok (.getfield 100, 3) := by decide +kernel
theorem dX9_setColumn_41 : decode cX9_setColumn 41 = .ok (.iload_n 1, 1) := by decide +kernel
theorem dX9_setColumn_42 : decode cX9_setColumn 42 = .ok (.invokevirtual 104, 3) := by decide +kernel
theorem dX9_setColumn_45 : decode cX9_setColumn 45 = .ok (.if_icmp .le 7, 3) := by decide +kernel
theorem dX9_setColumn_48 : decode cX9_setColumn 48 = .ok (.sipush (-1001), 3) := by decide +kernel
theorem dX9_setColumn_51 : decode cX9_setColumn 51 = .ok (.ireturn, 1) := by decide +kernel
theorem dX9_setColumn_52 : decode cX9_setColumn 52 = .ok (.aload_n 0, 1) := by decide +kernel
theorem dX9_setColumn_53 : decode cX9_setColumn 53 = .ok (.getfield 22, 3) := by decide +kernel
theorem dX9_setColumn_56 : decode cX9_setColumn 56 = .ok (.aload_n 0, 1) := by decide +kernel
theorem dX9_setColumn_57 : decode cX9_setColumn 57 = .ok (.getfield 10, 3) := by decide +kernel
theorem dX9_setColumn_60 : decode cX9_setColumn 60 = .ok (.invokevirtual 62, 3) := by decide +kernel
theorem dX9_setColumn_63 : decode cX9_setColumn 63 = .ok (.aload_n 0, 1) := by decide +kernel
theorem dX9_setColumn_64 : decode cX9_setColumn 64 = .ok (.getfield 10, 3) := by decide +kernel
theorem dX9_setColumn_67 : decode cX9_setColumn 67 = .ok (.getfield 100, 3) := by decide +kernel
theorem dX9_setColumn_70 : decode cX9_setColumn 70 = .ok (.iload_n 1, 1) := by decide +kernel
theorem dX9_setColumn_71 : decode cX9_setColumn 71 = .ok (.iload_n 2, 1) := by decide +kernel
theorem dX9_setColumn_72 : decode cX9_setColumn 72 = .ok (.iload_n 3, 1) := by decide +kernel
theorem dX9_setColumn_73 : decode cX9_setColumn 73 = .ok (.invokevirtual 110, 3) := by decide +kernel
theorem dX9_setColumn_76 : decode cX9_setColumn 76 = .ok (.aload_n 0, 1) := by decide +kernel
theorem dX9_setColumn_77 : decode cX9_setColumn 77 = .ok (.getfield 10, 3) := by decide +kernel
theorem dX9_setColumn_80 : decode cX9_setColumn 80 = .ok (.getfield 100, 3) := by decide +kernel
theorem dX9_setColumn_83 : decode cX9_setColumn 83 = .ok (.iload_n 1, 1) := by decide +kernel
theorem dX9_setColumn_84 : decode cX9_setColumn 84 = .ok (.invokevirtual 104, 3) := by decide +kernel
theorem dX9_setColumn_87 : decode cX9_setColumn 87 = .ok (.ireturn, 1) := by decide +kernel
theorem dX9_addMessage_0 : decode cX9_addMessage 0 = .ok (.iload_n 1, 1) := by decide +kernel
theorem dX9_addMessage_1 : decode cX9_addMessage 1 = .ok (.ifCond .lt 20, 3) := by decide +kernel
theorem dX9_addMessage_4 : decode cX9_addMessage 4 = .ok (.iload_n 1, 1) := by decide +kernel
theorem dX9_addMessage_5 : decode cX9_addMessage 5 = .ok (.bipush 26, 2) := by decide +kernel
theorem dX9_addMessage_7 : decode cX9_addMessage 7 = .ok (.if_icmp .gt 14, 3) := by decide +kernel
theorem dX9_addMessage_10 : decode cX9_addMessage 10 = .ok (.iload_n 2, 1) := by decide +kernel
theorem dX9_addMessage_11 : decode cX9_addMessage 11 = .ok (.iconst (-1), 1) := by decide +kernel
theorem dX9_addMessage_12 : decode cX9_addMessage 12 = .ok (.if_icmp .lt 9, 3) := by decide +kernel
theorem dX9_addMessage_15 : decode cX9_addMessage 15 = .ok (.iload_n 2, 1) := by decide +kernel
theorem dX9_addMessage_16 : decode cX9_addMessage 16 = .ok (.bipush 26, 2) := by decide +kernel
theorem dX9_addMessage_18 : decode cX9_addMessage 18 = .ok (.if_icmp .le 7, 3) := by decide +kernel
theorem dX9_addMessage_21 : decode cX9_addMessage 21 = .ok (.sipush (-1001), 3) := by decide +kernel
theorem dX9_addMessage_24 : decode cX9_addMessage 24 = .ok (.ireturn, 1) := by decide +kernel
theorem dX9_addMessage_25 : decode cX9_addMessage 25 = .ok (.aload_n 0, 1) := by decide +kernel
theorem dX9_addMessage_26 : decode cX9_addMessage 26 = .ok (.getfield 10, 3) := by decide +kernel
theorem dX9_addMessage_29 : decode cX9_addMessage 29 = .ok (.getfield 100, 3) := by decide +kernel
theorem dX9_addMessage_32 : decode cX9_addMessage 32 = .ok (.getfield 114, 3) := by decide +kernel
theorem dX9_addMessage_35 : decode cX9_addMessage 35 = .ok (.bipush 8, 2) := by decide +kernel
theorem dX9_addMessage_37 : decode cX9_addMessage 37 = .ok (.if_icmp .lt 7, 3) := by decide +kernel
theorem dX9_addMessage_40 : decode cX9_addMessage 40 = .ok (.sipush (-1003), 3) := by decide +kernel
theorem dX9_addMessage_43 : decode cX9_addMessage 43 = .ok (.ireturn, 1) := by decide +kernel
theorem dX9_addMessage_44 : decode cX9_addMessage 44 = .ok (.aload_n 0, 1) := by decide +kernel
theorem dX9_addMessage_45 : decode cX9_addMessage 45 = .ok (.getfield 22, 3) := by decide +kernel
theorem dX9_addMessage_48 : decode cX9_addMessage 48 = .ok (.aload_n 0, 1) := by decide +kernel
theorem dX9_addMessage_49 : decode cX9_addMessage 49 = .ok (.getfield 10, 3) := by decide +kernel
theorem dX9_addMessage_52 : decode cX9_addMessage 52 = .ok (.invokevirtual 62, 3) := by decide +kernel
theorem dX9_addMessage_55 : decode cX9_addMessage 55 = .ok (.aload_n 0, 1) := by decide +kernel
theorem dX9_addMessage_56 : decode cX9_addMessage 56 = .ok (.getfield 10, 3) := by decide +kernel
theorem dX9_addMessage_59 : decode cX9_addMessage 59 = .ok (.getfield 100, 3) := by decide +kernel
theorem dX9_addMessage_62 : decode cX9_addMessage 62 = .ok (.invokevirtual 117, 3) := by decide +kernel
theorem dX9_addMessage_65 : decode cX9_addMessage 65 = .ok (.aload_n 0, 1) := by decide +kernel
theorem dX9_addMessage_66 : decode cX9_addMessage 66 = .ok (.getfield 10, 3) := by decide +kernel
theorem dX9_addMessage_69 : decode cX9_addMessage 69 = .ok (.getfield 100, 3) := by decide +kernel
theorem dX9_addMessage_72 : decode cX9_addMessage 72 = .ok (.iload_n 1, 1) := by decide +kernel
theorem dX9_addMessage_73 : decode cX9_addMessage 73 = .ok (.invokevirtual 120, 3) := by decide +kernel
theorem dX9_addMessage_76 : decode cX9_addMessage 76 = .ok (.iload_n 2, 1) := by decide +kernel
theorem dX9_addMessage_77 : decode cX9_addMessage 77 = .ok (.iconst (-1), 1) := by decide +kernel
theorem dX9_addMessage_78 : decode cX9_addMessage 78 = .ok (.if_icmp .eq 14, 3) := by decide +kernel
theorem dX9_addMessage_81 : decode cX9_addMessage 81 = .ok (.aload_n 0, 1) := by decide +kernel
theorem dX9_addMessage_82 : decode cX9_addMessage 82 = .ok (.getfield 10, 3) := by decide +kernel
theorem dX9_addMessage_85 : decode cX9_addMessage 85 = .ok (.getfield 100, 3) := by decide +kernel
theorem dX9_addMessage_88 : decode cX9_addMessage 88 = .ok (.iload_n 2, 1) := by decide +kernel
theorem dX9_addMessage_89 : decode cX9_addMessage 89 = .ok (.invokevirtual 120, 3) := by decide +kernel
theorem dX9_addMessage_92 : decode cX9_addMessage 92 = .ok (.aload_n 0, 1) := by decide +kernel
theorem dX9_addMessage_93 : decode cX9_addMessage 93 = .ok (.getfield 10, 3) := by decide +kernel
theorem dX9_addMessage_96 : decode cX9_addMessage 96 = .ok (.getfield 100, 3) := by decide +kernel
theorem dX9_addMessage_99 : decode cX9_addMessage 99 = .ok (.getfield 114, 3) := by decide +kernel
theorem dX9_addMessage_102 : decode cX9_addMessage 102 = .ok (.iconst 1, 1) := by decide +kernel
theorem dX9_addMessage_103 : decode cX9_addMessage 103 = .ok (.isub, 1) := by decide +kernel
theorem dX9_addMessage_104 : decode cX9_addMessage 104 = .ok (.ireturn, 1) := by decide +kernel
theorem dX9_removeMessage_0 : decode cX9_removeMessage 0 = .ok (.aload_n 0, 1) := by decide +kernel
theorem dX9_removeMessage_1 : decode cX9_removeMessage 1 = .ok (.getfield 10, 3) := by decide +kernel
theorem dX9_removeMessage_4 : decode cX9_removeMessage 4 = .ok (.getfield 100, 3) := by decide +kernel
theorem dX9_removeMessage_7 : decode cX9_removeMessage 7 = .ok (.iload_n 1, 1) := by decide +kernel
theorem dX9_removeMessage_8 : decode cX9_removeMessage 8 = .ok (.invokevirtual 123, 3) := by decide +kernel
theorem dX9_removeMessage_11 : decode cX9_removeMessage 11 = .ok (.ifCond .ne 7, 3) := by decide +kernel
theorem dX9_removeMessage_14 : decode cX9_removeMessage 14 = .ok (.sipush (-1001), 3) := by decide +kernel
theorem dX9_removeMessage_17 : decode cX9_removeMessage 17 = .ok (.ireturn, 1) := by decide +kernel
theorem dX9_removeMessage_18 : decode cX9_removeMessage 18 = .ok (.aload_n 0, 1) := by decide +kernel
theorem dX9_removeMessage_19 : decode cX9_removeMessage 19 = .ok (.getfield 22, 3) := by decide +kernel
theorem dX9_removeMessage_22 : decode cX9_removeMessage 22 = .ok (.aload_n 0, 1) := by decide +kernel
theorem dX9_removeMessage_23 : decode cX9_removeMessage 23 = .ok (.getfield 10, 3) := by decide +kernel
theorem dX9_removeMessage_26 : decode cX9_removeMessage 26 = .ok (.invokevirtual 62, 3) := by decide +kernel
theorem dX9_removeMessage_29 : decode cX9_removeMessage 29 = .ok (.aload_n 0, 1) := by decide +kernel
theorem dX9_removeMessage_30 : decode cX9_removeMessage 30 = .ok (.getfield 10, 3) := by decide +kernel
theorem dX9_removeMessage_33 : decode cX9_removeMessage 33 = .ok (.getfield 100, 3) := by decide +kernel
theorem dX9_removeMessage_36 : decode cX9_removeMessage 36 = .ok (.iload_n 1, 1) := by decide +kernel
theorem dX9_removeMessage_37 : decode cX9_removeMessage 37 = .ok (.invokevirtual 126, 3) := by decide +kernel
theorem dX9_removeMessage_40 : decode cX9_removeMessage 40 = .ok (.aload_n 0, 1) := by decide +kernel
theorem dX9_removeMessage_41 : decode cX9_removeMessage 41 = .ok (.getfield 10, 3) := by decide +kernel
theorem dX9_removeMessage_44 : decode cX9_removeMessage 44 = .ok (.getfield 100, 3) := by decide +kernel
theorem dX9_removeMessage_47 : decode cX9_removeMessage 47 = .ok (.getfield 114, 3) := by decide +kernel
theorem dX9_removeMessage_50 : decode cX9_removeMessage 50 = .ok (.ireturn, 1) := by decide +kernel
theorem dX9_appendCharacter_0 : decode cX9_appendCharacter 0 = .ok (.iload_n 1, 1) := by decide +kernel
theorem dX9_appendCharacter_1 : decode cX9_appendCharacter 1 = .ok (.ifCond .lt 10, 3) := by decide +kernel
theorem dX9_appendCharacter_4 : decode cX9_appendCharacter 4 = .ok (.iload_n 1, 1) := by decide +kernel
theorem dX9_appendCharacter_5 : decode cX9_appendCharacter 5 = .ok (.sipush 255, 3) := by decide +kernel
theorem dX9_appendCharacter_8 : decode cX9_appendCharacter 8 = .ok (.if_icmp .le 7, 3) := by decide +kernel
theorem dX9_appendCharacter_11 : decode cX9_appendCharacter 11 = .ok (.sipush (-1001), 3) := by decide +kernel
theorem dX9_appendCharacter_14 : decode cX9_appendCharacter 14 = .ok (.ireturn, 1) := by decide +kernel
theorem dX9_appendCharacter_15 : decode cX9_appendCharacter 15 = .ok (.aload_n 0, 1) := by decide +kernel
theorem dX9_appendCharacter_16 : decode cX9_appendCharacter 16 = .ok (.getfield 58, 3) := by decide +kernel
theorem dX9_appendCharacter_19 : decode cX9_appendCharacter 19 = .ok (.ifCond .lt 12, 3) := by decide +kernel
theorem dX9_appendCharacter_22 : decode cX9_appendCharacter 22 = .ok (.aload_n 0, 1) := by decide +kernel
theorem dX9_appendCharacter_23 : decode cX9_appendCharacter 23 = .ok (.getfield 58, 3) := by decide +kernel
theorem dX9_appendCharacter_26 : decode cX9_appendCharacter 26 = .ok (.bipush 120, 2) := by decide +kernel
theorem dX9_appendCharacter_28 : decode cX9_appendCharacter 28 = .ok (.if_icmp .lt 7, 3) := by decide +kernel
theorem dX9_appendCharacter_31 : decode cX9_appendCharacter 31 = .ok (.sipush (-1003), 3) := by decide +kernel
theorem dX9_appendCharacter_34 : decode cX9_appendCharacter 34 = .ok (.ireturn, 1) := by decide +kernel
theorem dX9_appendCharacter_35 : decode cX9_appendCharacter 35 = .ok (.aload_n 0, 1) := by decide +kernel
theorem dX9_appendCharacter_36 : decode cX9_appendCharacter 36 = .ok (.getfield 54, 3) := by decide +kernel
theorem dX9_appendCharacter_39 : decode cX9_appendCharacter 39 = .ok (.aload_n 0, 1) := by decide +kernel
theorem dX9_appendCharacter_40 : decode cX9_appendCharacter 40 = .ok (.getfield 58, 3) := by decide +kernel
theorem dX9_appendCharacter_43 : decode cX9_appendCharacter 43 = .ok (.iload_n 1, 1) := by decide +kernel
theorem dX9_appendCharacter_44 : decode cX9_appendCharacter 44 = .ok (.iastore, 1) := by decide +kernel
theorem dX9_appendCharacter_45 : decode cX9_appendCharacter 45 = .ok (.aload_n 0, 1) := by decide +kernel
theorem dX9_appendCharacter_46 : decode cX9_appendCharacter 46 = .ok (.dup, 1) := by decide +kernel
theorem dX9_appendCharacter_47 : decode cX9_appendCharacter 47 = .ok (.getfield 58, 3) := by decide +kernel
theorem dX9_appendCharacter_50 : decode cX9_appendCharacter 50 = .ok (.iconst 1, 1) := by decide +kernel
theorem dX9_appendCharacter_51 : decode cX9_appendCharacter 51 = .ok (.iadd, 1) := by decide +kernel
theorem dX9_appendCharacter_52 : decode cX9_appendCharacter 52 = .ok (.putfield 58, 3) := by decide +kernel
theorem dX9_appendCharacter_55 : decode cX9_appendCharacter 55 = .ok (.aload_n 0, 1) := by decide +kernel
theorem dX9_appendCharacter_56 : decode cX9_appendCharacter 56 = .ok (.getfield 58, 3) := by decide +kernel
theorem dX9_appendCharacter_59 : decode cX9_appendCharacter 59 = .ok (.ireturn, 1) := by decide +kernel
theorem dX9_clearText_0 : decode cX9_clearText 0 = .ok (.aload_n 0, 1) := by decide +kernel
theorem dX9_clearText_1 : decode cX9_clearText 1 = .ok (.getfield 58, 3) := by decide +kernel
theorem dX9_clearText_4 : decode cX9_clearText 4 = .ok (.istore_n 1, 1) := by decide +kernel
theorem dX9_clearText_5 : decode cX9_clearText 5 = .ok (.aload_n 0, 1) := by decide +kernel
theorem dX9_clearText_6 : decode cX9_clearText 6 = .ok (.iconst 0, 1) := by decide +kernel
theorem dX9_clearText_7 : decode cX9_clearText 7 = .ok (.putfield 58, 3) := by decide +kernel
theorem dX9_clearText_10 : decode cX9_clearText 10 = .ok (.iload_n 1, 1) := by decide +kernel
theorem dX9_clearText_11 : decode cX9_clearText 11 = .ok (.ireturn, 1) := by decide +kernel
theorem dX9_load_0 : decode cX9_load 0 = .ok (.aload_n 0, 1) := by decide +kernel
theorem dX9_load_1 : decode cX9_load 1 = .ok (.getfield 43, 3) := by decide +kernel
theorem dX9_load_4 : decode cX9_load 4 = .ok (.aload_n 0, 1) := by decide +kernel
theorem dX9_load_5 : decode cX9_load 5 = .ok (.getfield 54, 3) := by decide +kernel
theorem dX9_load_8 : decode cX9_load 8 = .ok (.aload_n 0, 1) := by decide +kernel
theorem dX9_load_9 : decode cX9_load 9 = .ok (.getfield 58, 3) := by decide +kernel
theorem dX9_load_12 : decode cX9_load 12 = .ok (.aload_n 0, 1) := by decide +kernel
theorem dX9_load_13 : decode cX9_load 13 = .ok (.getfield 10, 3) := by decide +kernel
theorem dX9_load_16 : decode cX9_load 16 = .ok (.getfield 100, 3) := by decide +kernel
theorem dX9_load_19 : decode cX9_load 19 = .ok (.invokevirtual 129, 3) := by decide +kernel
theorem dX9_load_22 : decode cX9_load 22 = .ok (.istore_n 1, 1) := by decide +kernel
theorem dX9_load_23 : decode cX9_load 23 = .ok (.iload_n 1, 1) := by decide +kernel
theorem dX9_load_24 : decode cX9_load 24 = .ok (.iconst (-1), 1) := by decide +kernel
theorem dX9_load_25 : decode cX9_load 25 = .ok (.if_icmp .eq 9, 3) := by decide +kernel
theorem dX9_load_28 : decode cX9_load 28 = .ok (.sipush (-2000), 3) := by decide +kernel
theorem dX9_load_31 : decode cX9_load 31 = .ok (.iload_n 1, 1) := by decide +kernel
theorem dX9_load_32 : decode cX9_load 32 = .ok (.isub, 1) := by decide +kernel
theorem dX9_load_33 : decode cX9_load 33 = .ok (.ireturn, 1) := by decide +kernel
theorem dX9_load_34 : decode cX9_load 34 = .ok (.aload_n 0, 1) := by decide +kernel
theorem dX9_load_35 : decode cX9_load 35 = .ok (.getfield 22, 3) := by decide +kernel
theorem dX9_load_38 : decode cX9_load 38 = .ok (.aload_n 0, 1) := by decide +kernel
theorem dX9_load_39 : decode cX9_load 39 = .ok (.getfield 10, 3) := by decide +kernel
theorem dX9_load_42 : decode cX9_load 42 = .ok (.invokevirtual 62, 3) := by decide +kernel
theorem dX9_load_45 : decode cX9_load 45 = .ok (.aload_n 0, 1) := by decide +kernel
theorem dX9_load_46 : decode cX9_load 46 = .ok (.getfield 10, 3) := by decide +kernel
theorem dX9_load_49 : decode cX9_load 49 = .ok (.getfield 100, 3) := by decide +kernel
theorem dX9_load_52 : decode cX9_load 52 = .ok (.aload_n 0, 1) := by decide +kernel
theorem dX9_load_53 : decode cX9_load 53 = .ok (.getfield 43, 3) := by decide +kernel
theorem dX9_load_56 : decode cX9_load 56 = .ok (.getfield 133, 3) := by decide +kernel
theorem dX9_load_59 : decode cX9_load 59 = .ok (.invokevirtual 136, 3) := by decide +kernel
theorem dX9_load_62 : decode cX9_load 62 = .ok (.aload_n 0, 1) := by decide +kernel
theorem dX9_load_63 : decode cX9_load 63 = .ok (.iconst 0, 1) := by decide +kernel
theorem dX9_load_64 : decode cX9_load 64 = .ok (.putfield 58, 3) := by decide +kernel
theorem dX9_load_67 : decode cX9_load 67 = .ok (.aload_n 0, 1) := by decide +kernel
theorem dX9_load_68 : decode cX9_load 68 = .ok (.getfield 43, 3) := by decide +kernel
theorem dX9_load_71 : decode cX9_load 71 = .ok (.getfield 140, 3) := by decide +kernel
theorem dX9_load_74 : decode cX9_load 74 = .ok (.ireturn, 1) := by decide +kernel
theorem dX9_show_0 : decode cX9_show 0 = .ok (.aload_n 0, 1) := by decide +kernel
theorem dX9_show_1 : decode cX9_show 1 = .ok (.iload_n 1, 1) := by decide +kernel
theorem dX9_show_2 : decode cX9_show 2 = .ok (.iload_n 2, 1) := by decide +kernel
theorem dX9_show_3 : decode cX9_show 3 = .ok (.invokevirtual 143, 3) := by decide +kernel
theorem dX9_show_6 : decode cX9_show 6 = .ok (.ifCond .ne 7, 3) := by decide +kernel
theorem dX9_show_9 : decode cX9_show 9 = .ok (.sipush (-1001), 3) := by decide +kernel
theorem dX9_show_12 : decode cX9_show 12 = .ok (.ireturn, 1) := by decide +kernel
theorem dX9_show_13 : decode cX9_show 13 = .ok (.aload_n 0, 1) := by decide +kernel
theorem dX9_show_14 : decode cX9_show 14 = .ok (.getfield 22, 3) := by decide +kernel
theorem dX9_show_17 : decode cX9_show 17 = .ok (.aload_n 0, 1) := by decide +kernel
theorem dX9_show_18 : decode cX9_show 18 = .ok (.getfield 10, 3) := by decide +kernel
theorem dX9_show_21 : decode cX9_show 21 = .ok (.invokevirtual 62, 3) := by decide +kernel
theorem dX9_show_24 : decode cX9_show 24 = .ok (.aload_n 0, 1) := by decide +kernel
theorem dX9_show_25 : decode cX9_show 25 = .ok (.getfield 29, 3) := by decide +kernel
theorem dX9_show_28 : decode cX9_show 28 = .ok (.aload_n 0, 1) := by decide +kernel
theorem dX9_show_29 : decode cX9_show 29 = .ok (.getfield 10, 3) := by decide +kernel
theorem dX9_show_32 : decode cX9_show 32 = .ok (.iload_n 1, 1) := by decide +kernel
theorem dX9_show_33 : decode cX9_show 33 = .ok (.iload_n 2, 1) := by decide +kernel
theorem dX9_show_34 : decode cX9_show 34 = .ok (.invokevirtual 147, 3) := by decide +kernel
theorem dX9_show_37 : decode cX9_show 37 = .ok (.aload_n 0, 1) := by decide +kernel
theorem dX9_show_38 : decode cX9_show 38 = .ok (.getfield 10, 3) := by decide +kernel
theorem dX9_show_41 : decode cX9_show 41 = .ok (.getfield 66, 3) := by decide +kernel
theorem dX9_show_44 : decode cX9_show 44 = .ok (.aload_n 0, 1) := by decide +kernel
theorem dX9_show_45 : decode cX9_show 45 = .ok (.getfield 29, 3) := by decide +kernel
theorem dX9_show_48 : decode cX9_show 48 = .ok (.getfield 151, 3) := by decide +kernel
theorem dX9_show_51 : decode cX9_show 51 = .ok (.invokevirtual 154, 3) := by decide +kernel
theorem dX9_show_54 : decode cX9_show 54 = .ok (.aload_n 0, 1) := by decide +kernel
theorem dX9_show_55 : decode cX9_show 55 = .ok (.getfield 10, 3) := by decide +kernel
theorem dX9_show_58 : decode cX9_show 58 = .ok (.getfield 66, 3) := by decide +kernel
theorem dX9_show_61 : decode cX9_show 61 = .ok (.invokevirtual 158, 3) := by decide +kernel
theorem dX9_show_64 : decode cX9_show 64 = .ok (.ireturn, 1) := by decide +kernel
theorem dX9_darken_0 : decode cX9_darken 0 = .ok (.aload_n 0, 1) := by decide +kernel
theorem dX9_darken_1 : decode cX9_darken 1 = .ok (.getfield 22, 3) := by decide +kernel
theorem dX9_darken_4 : decode cX9_darken 4 = .ok (.aload_n 0, 1) := by decide +kernel
theorem dX9_darken_5 : decode cX9_darken 5 = .ok (.getfield 10, 3) := by decide +kernel
theorem dX9_darken_8 : decode cX9_darken 8 = .ok (.invokevirtual 62, 3) := by decide +kernel
theorem dX9_darken_11 : decode cX9_darken 11 = .ok (.aload_n 0, 1) := by decide +kernel
theorem dX9_darken_12 : decode cX9_darken 12 = .ok (.getfield 10, 3) := by decide +kernel
theorem dX9_darken_15 : decode cX9_darken 15 = .ok (.getfield 66, 3) := by decide +kernel
theorem dX9_darken_18 : decode cX9_darken 18 = .ok (.invokevirtual 162, 3) := by decide +kernel
theorem dX9_darken_21 : decode cX9_darken 21 = .ok (.aload_n 0, 1) := by decide +kernel
theorem dX9_darken_22 : decode cX9_darken 22 = .ok (.getfield 10, 3) := by decide +kernel
theorem dX9_darken_25 : decode cX9_darken 25 = .ok (.getfield 66, 3) := by decide +kernel
theorem dX9_darken_28 : decode cX9_darken 28 = .ok (.invokevirtual 158, 3) := by decide +kernel
theorem dX9_darken_31 : decode cX9_darken 31 = .ok (.ireturn, 1) := by decide +kernel
theorem dX9_jam_0 : decode cX9_jam 0 = .ok (.aload_n 0, 1) := by decide +kernel
theorem dX9_jam_1 : decode cX9_jam 1 = .ok (.getfield 10, 3) := by decide +kernel
theorem dX9_jam_4 : decode cX9_jam 4 = .ok (.getfield 66, 3) := by decide +kernel
theorem dX9_jam_7 : decode cX9_jam 7 = .ok (.iload_n 1, 1) := by decide +kernel
theorem dX9_jam_8 : decode cX9_jam 8 = .ok (.iload_n 2, 1) := by decide +kernel
theorem dX9_jam_9 : decode cX9_jam 9 = .ok (.invokevirtual 165, 3) := by decide +kernel
theorem dX9_jam_12 : decode cX9_jam 12 = .ok (.ifCond .ne 7, 3) := by decide +kernel
theorem dX9_jam_15 : decode cX9_jam 15 = .ok (.sipush (-1001), 3) := by decide +kernel
theorem dX9_jam_18 : decode cX9_jam 18 = .ok (.ireturn, 1) := by decide +kernel
theorem dX9_jam_19 : decode cX9_jam 19 = .ok (.aload_n 0, 1) := by decide +kernel
theorem dX9_jam_20 : decode cX9_jam 20 = .ok (.getfield 10, 3) := by decide +kernel
theorem dX9_jam_23 : decode cX9_jam 23 = .ok (.getfield 66, 3) := by decide +kernel
theorem dX9_jam_26 : decode cX9_jam 26 = .ok (.iload_n 1, 1) := by decide +kernel
theorem dX9_jam_27 : decode cX9_jam 27 = .ok (.iload_n 2, 1) := by decide +kernel
theorem dX9_jam_28 : decode cX9_jam 28 = .ok (.invokevirtual 168, 3) := by decide +kernel
theorem dX9_jam_31 : decode cX9_jam 31 = .ok (.ifCond .eq 7, 3) := by decide +kernel
theorem dX9_jam_34 : decode cX9_jam 34 = .ok (.sipush (-1002), 3) := by decide +kernel
theorem dX9_jam_37 : decode cX9_jam 37 = .ok (.ireturn, 1) := by decide +kernel
theorem dX9_jam_38 : decode cX9_jam 38 = .ok (.aload_n 0, 1) := by decide +kernel
theorem dX9_jam_39 : decode cX9_jam 39 = .ok (.getfield 22, 3) := by decide +kernel
theorem dX9_jam_42 : decode cX9_jam 42 = .ok (.aload_n 0, 1) := by decide +kernel
theorem dX9_jam_43 : decode cX9_jam 43 = .ok (.getfield 10, 3) := by decide +kernel
theorem dX9_jam_46 : decode cX9_jam 46 = .ok (.invokevirtual 62, 3) := by decide +kernel
theorem dX9_jam_49 : decode cX9_jam 49 = .ok (.aload_n 0, 1) := by decide +kernel
theorem dX9_jam_50 : decode cX9_jam 50 = .ok (.getfield 10, 3) := by decide +kernel
theorem dX9_jam_53 : decode cX9_jam 53 = .ok (.getfield 66, 3) := by decide +kernel
theorem dX9_jam_56 : decode cX9_jam 56 = .ok (.iload_n 1, 1) := by decide +kernel
theorem dX9_jam_57 : decode cX9_jam 57 = .ok (.iload_n 2, 1) := by decide +kernel
theorem dX9_jam_58 : decode cX9_jam 58 = .ok (.invokevirtual 171, 3) := by decide +kernel
theorem dX9_jam_61 : decode cX9_jam 61 = .ok (.aload_n 0, 1) := by decide +kernel
theorem dX9_jam_62 : decode cX9_jam 62 = .ok (.getfield 10, 3) := by decide +kernel
theorem dX9_jam_65 : decode cX9_jam 65 = .ok (.getfield 66, 3) := by decide +kernel
theorem dX9_jam_68 : decode cX9_jam 68 = .ok (.iload_n 1, 1) := by decide +kernel
theorem dX9_jam_69 : decode cX9_jam 69 = .ok (.iload_n 2, 1) := by decide +kernel
theorem dX9_jam_70 : decode cX9_jam 70 = .ok (.invokevirtual 175, 3) := by decide +kernel
theorem dX9_jam_73 : decode cX9_jam 73 = .ok (.ireturn, 1) := by decide +kernel
theorem dX9_mend_0 : decode cX9_mend 0 = .ok (.aload_n 0, 1) := by decide +kernel
theorem dX9_mend_1 : decode cX9_mend 1 = .ok (.getfield 10, 3) := by decide +kernel
theorem dX9_mend_4 : decode cX9_mend 4 = .ok (.getfield 66, 3) := by decide +kernel
theorem dX9_mend_7 : decode cX9_mend 7 = .ok (.iload_n 1, 1) := by decide +kernel
theorem dX9_mend_8 : decode cX9_mend 8 = .ok (.iload_n 2, 1) := by decide +kernel
theorem dX9_mend_9 : decode cX9_mend 9 = .ok (.invokevirtual 165, 3) := by decide +kernel
theorem dX9_mend_12 : decode cX9_mend 12 = .ok (.ifCond .ne 7, 3) := by decide +kernel
theorem dX9_mend_15 : decode cX9_mend 15 = .ok (.sipush (-1001), 3) := by decide +kernel
theorem dX9_mend_18 : decode cX9_mend 18 = .ok (.ireturn, 1) := by decide +kernel
theorem dX9_mend_19 : decode cX9_mend 19 = .ok (.aload_n 0, 1) := by decide +kernel
theorem dX9_mend_20 : decode cX9_mend 20 = .ok (.getfield 22, 3) := by decide +kernel
theorem dX9_mend_23 : decode cX9_mend 23 = .ok (.aload_n 0, 1) := by decide +kernel
theorem dX9_mend_24 : decode cX9_mend 24 = .ok (.getfield 10, 3) := by decide +kernel
theorem dX9_mend_27 : decode cX9_mend 27 = .ok (.invokevirtual 62, 3) := by decide +kernel
theorem dX9_mend_30 : decode cX9_mend 30 = .ok (.aload_n 0, 1) := by decide +kernel
theorem dX9_mend_31 : decode cX9_mend 31 = .ok (.getfield 10, 3) := by decide +kernel
theorem dX9_mend_34 : decode cX9_mend 34 = .ok (.getfield 66, 3) := by decide +kernel
theorem dX9_mend_37 : decode cX9_mend 37 = .ok (.iload_n 1, 1) := by decide +kernel
theorem dX9_mend_38 : decode cX9_mend 38 = .ok (.iload_n 2, 1) := by decide +kernel
theorem dX9_mend_39 : decode cX9_mend 39 = .ok (.invokevirtual 168, 3) := by decide +kernel
theorem dX9_mend_42 : decode cX9_mend 42 = .ok (.ifCond .eq 7, 3) := by decide +kernel
theorem dX9_mend_45 : decode cX9_mend 45 = .ok (.iconst 1, 1) := by decide +kernel
theorem dX9_mend_46 : decode cX9_mend 46 = .ok (.goto 4, 3) := by decide +kernel
theorem dX9_mend_49 : decode cX9_mend 49 = .ok (.iconst 0, 1) := by decide +kernel
theorem dX9_mend_50 : decode cX9_mend 50 = .ok (.istore_n 3, 1) := by decide +kernel
theorem dX9_mend_51 : decode cX9_mend 51 = .ok (.aload_n 0, 1) := by decide +kernel
theorem dX9_mend_52 : decode cX9_mend 52 = .ok (.getfield 10, 3) := by decide +kernel
theorem dX9_mend_55 : decode cX9_mend 55 = .ok (.getfield 66, 3) := by decide +kernel
theorem dX9_mend_58 : decode cX9_mend 58 = .ok (.iload_n 1, 1) := by decide +kernel
theorem dX9_mend_59 : decode cX9_mend 59 = .ok (.iload_n 2, 1) := by decide +kernel
theorem dX9_mend_60 : decode cX9_mend 60 = .ok (.invokevirtual 179, 3) := by decide +kernel
theorem dX9_mend_63 : decode cX9_mend 63 = .ok (.iload_n 3, 1) := by decide +kernel
theorem dX9_mend_64 : decode cX9_mend 64 = .ok (.ireturn, 1) := by decide +kernel
theorem dX9_pass_0 : decode cX9_pass 0 = .ok (.iload_n 1, 1) := by decide +kernel
theorem dX9_pass_1 : decode cX9_pass 1 = .ok (.iconst 1, 1) := by decide +kernel
theorem dX9_pass_2 : decode cX9_pass 2 = .ok (.if_icmp .lt 10, 3) := by decide +kernel
theorem dX9_pass_5 : decode cX9_pass 5 = .ok (.iload_n 1, 1) := by decide +kernel
theorem dX9_pass_6 : decode cX9_pass 6 = .ok (.sipush 200, 3) := by decide +kernel
theorem dX9_pass_9 : decode cX9_pass 9 = .ok (.if_icmp .le 7, 3) := by decide +kernel
theorem dX9_pass_12 : decode cX9_pass 12 = .ok (.sipush (-1001), 3) := by decide +kernel
theorem dX9_pass_15 : decode cX9_pass 15 = .ok (.ireturn, 1) := by decide +kernel
theorem dX9_pass_16 : decode cX9_pass 16 = .ok (.aload_n 0, 1) := by decide +kernel
theorem dX9_pass_17 : decode cX9_pass 17 = .ok (.getfield 22, 3) := by decide +kernel
theorem dX9_pass_20 : decode cX9_pass 20 = .ok (.aload_n 0, 1) := by decide +kernel
theorem dX9_pass_21 : decode cX9_pass 21 = .ok (.getfield 10, 3) := by decide +kernel
theorem dX9_pass_24 : decode cX9_pass 24 = .ok (.invokevirtual 62, 3) := by decide +kernel
theorem dX9_pass_27 : decode cX9_pass 27 = .ok (.iconst 0, 1) := by decide +kernel
theorem dX9_pass_28 : decode cX9_pass 28 = .ok (.istore_n 2, 1) := by decide +kernel
theorem dX9_pass_29 : decode cX9_pass 29 = .ok (.iload_n 2, 1) := by decide +kernel
theorem dX9_pass_30 : decode cX9_pass 30 = .ok (.iload_n 1, 1) := by decide +kernel
theorem dX9_pass_31 : decode cX9_pass 31 = .ok (.if_icmp .ge 20, 3) := by decide +kernel
theorem dX9_pass_34 : decode cX9_pass 34 = .ok (.aload_n 0, 1) := by decide +kernel
theorem dX9_pass_35 : decode cX9_pass 35 = .ok (.getfield 36, 3) := by decide +kernel
theorem dX9_pass_38 : decode cX9_pass 38 = .ok (.aload_n 0, 1) := by decide +kernel
theorem dX9_pass_39 : decode cX9_pass 39 = .ok (.getfield 10, 3) := by decide +kernel
theorem dX9_pass_42 : decode cX9_pass 42 = .ok (.invokevirtual 182, 3) := by decide +kernel
theorem dX9_pass_45 : decode cX9_pass 45 = .ok (.iinc 2 1, 3) := by decide +kernel
theorem dX9_pass_48 : decode cX9_pass 48 = .ok (.goto (-19), 3) := by decide +kernel
theorem dX9_pass_51 : decode cX9_pass 51 = .ok (.aload_n 0, 1) := by decide +kernel
theorem dX9_pass_52 : decode cX9_pass 52 = .ok (.getfield 10, 3) := by decide +kernel
theorem dX9_pass_55 : decode cX9_pass 55 = .ok (.getfield 66, 3) := by decide +kernel
theorem dX9_pass_58 : decode cX9_pass 58 = .ok (.invokevirtual 158, 3) := by decide +kernel
theorem dX9_pass_61 : decode cX9_pass 61 = .ok (.ireturn, 1) := by decide +kernel
theorem dX9_count_0 : decode cX9_count 0 = .ok (.iload_n 1, 1) := by decide +kernel
theorem dX9_count_1 : decode cX9_count 1 = .ok (.tableswitch 228 0 14 #[75, 86, 96, 106, 116, 127, 138, 149, 160, 171, 182, 193, 204, 215, 220], 75) := by decide +kernel
theorem dX9_count_76 : decode cX9_count 76 = .ok (.aload_n 0, 1) := by decide +kernel
theorem dX9_count_77 : decode cX9_count 77 = .ok (.getfield 10, 3) := by decide +kernel
theorem dX9_count_80 : decode cX9_count 80 = .ok (.getfield 66, 3) := by decide +kernel
theorem dX9_count_83 : decode cX9_count 83 = .ok (.getfield 70, 3) := by decide +kernel
theorem dX9_count_86 : decode cX9_count 86 = .ok (.ireturn, 1) := by decide +kernel
theorem dX9_count_87 : decode cX9_count 87 = .ok (.aload_n 0, 1) := by decide +kernel
theorem dX9_count_88 : decode cX9_count 88 = .ok (.getfield 10, 3) := by decide +kernel
theorem dX9_count_91 : decode cX9_count 91 = .ok (.getfield 97, 3) := by decide +kernel
theorem dX9_count_94 : decode cX9_count 94 = .ok (.iconst 0, 1) := by decide +kernel
theorem dX9_count_95 : decode cX9_count 95 = .ok (.iaload, 1) := by decide +kernel
theorem dX9_count_96 : decode cX9_count 96 = .ok (.ireturn, 1) := by decide +kernel
theorem dX9_count_97 : decode cX9_count 97 = .ok (.aload_n 0, 1) := by decide +kernel
theorem dX9_count_98 : decode cX9_count 98 = .ok (.getfield 10, 3) := by decide +kernel
theorem dX9_count_101 : decode cX9_count 101 = .ok (.getfield 97, 3) := by decide +kernel
theorem dX9_count_104 : decode cX9_count 104 = .ok (.iconst 1, 1) := by decide +kernel
theorem dX9_count_105 : decode cX9_count 105 = .ok (.iaload, 1) := by decide +kernel
theorem dX9_count_106 : decode cX9_count 106 = .ok (.ireturn, 1) := by decide +kernel
theorem dX9_count_107 : decode cX9_count 107 = .ok (.aload_n 0, 1) := by decide +kernel
theorem dX9_count_108 : decode cX9_count 108 = .ok (.getfield 10, 3) := by decide +kernel
theorem dX9_count_111 : decode cX9_count 111 = .ok (.getfield 97, 3) := by decide +kernel
theorem dX9_count_114 : decode cX9_count 114 = .ok (.iconst 2, 1) := by decide +kernel
theorem dX9_count_115 : decode cX9_count 115 = .ok (.iaload, 1) := by decide +kernel
theorem dX9_count_116 : decode cX9_count 116 = .ok (.ireturn, 1) := by decide +kernel
theorem dX9_count_117 : decode cX9_count 117 = .ok (.aload_n 0, 1) := by decide +kernel
theorem dX9_count_118 : decode cX9_count 118 = .ok (.getfield 10, 3) := by decide +kernel
theorem dX9_count_121 : decode cX9_count 121 = .ok (.getfield 100, 3) := by decide +kernel
theorem dX9_count_124 : decode cX9_count 124 = .ok (.getfield 114, 3) := by decide +kernel
theorem dX9_count_127 : decode cX9_count 127 = .ok (.ireturn, 1) := by decide +kernel
theorem dX9_count_128 : decode cX9_count 128 = .ok (.aload_n 0, 1) := by decide +kernel
theorem dX9_count_129 : decode cX9_count 129 = .ok (.getfield 10, 3) := by decide +kernel
theorem dX9_count_132 : decode cX9_count 132 = .ok (.getfield 66, 3) := by decide +kernel
theorem dX9_count_135 : decode cX9_count 135 = .ok (.invokevirtual 158, 3) := by decide +kernel
theorem dX9_count_138 : decode cX9_count 138 = .ok (.ireturn, 1) := by decide +kernel
theorem dX9_count_139 : decode cX9_count 139 = .ok (.aload_n 0, 1) := by decide +kernel
theorem dX9_count_140 : decode cX9_count 140 = .ok (.getfield 10, 3) := by decide +kernel
theorem dX9_count_143 : decode cX9_count 143 = .ok (.getfield 66, 3) := by decide +kernel
theorem dX9_count_146 : decode cX9_count 146 = .ok (.invokevirtual 185, 3) := by decide +kernel
theorem dX9_count_149 : decode cX9_count 149 = .ok (.ireturn, 1) := by decide +kernel
theorem dX9_count_150 : decode cX9_count 150 = .ok (.aload_n 0, 1) := by decide +kernel
theorem dX9_count_151 : decode cX9_count 151 = .ok (.getfield 10, 3) := by decide +kernel
theorem dX9_count_154 : decode cX9_count 154 = .ok (.getfield 66, 3) := by decide +kernel
theorem dX9_count_157 : decode cX9_count 157 = .ok (.invokevirtual 188, 3) := by decide +kernel
theorem dX9_count_160 : decode cX9_count 160 = .ok (.ireturn, 1) := by decide +kernel
theorem dX9_count_161 : decode cX9_count 161 = .ok (.aload_n 0, 1) := by decide +kernel
theorem dX9_count_162 : decode cX9_count 162 = .ok (.getfield 10, 3) := by decide +kernel
theorem dX9_count_165 : decode cX9_count 165 = .ok (.getfield 66, 3) := by decide +kernel
theorem dX9_count_168 : decode cX9_count 168 = .ok (.invokevirtual 191, 3) := by decide +kernel
theorem dX9_count_171 : decode cX9_count 171 = .ok (.ireturn, 1) := by decide +kernel
theorem dX9_count_172 : decode cX9_count 172 = .ok (.aload_n 0, 1) := by decide +kernel
theorem dX9_count_173 : decode cX9_count 173 = .ok (.getfield 10, 3) := by decide +kernel
theorem dX9_count_176 : decode cX9_count 176 = .ok (.getfield 79, 3) := by decide +kernel
theorem dX9_count_179 : decode cX9_count 179 = .ok (.getfield 194, 3) := by decide +kernel
theorem dX9_count_182 : decode cX9_count 182 = .ok (.ireturn, 1) := by decide +kernel
theorem dX9_count_183 : decode cX9_count 183 = .ok (.aload_n 0, 1) := by decide +kernel
theorem dX9_count_184 : decode cX9_count 184 = .ok (.getfield 10, 3) := by decide +kernel
theorem dX9_count_187 : decode cX9_count 187 = .ok (.getfield 79, 3) := by decide +kernel
theorem dX9_count_190 : decode cX9_count 190 = .ok (.getfield 197, 3) := by decide +kernel
theorem dX9_count_193 : decode cX9_count 193 = .ok (.ireturn, 1) := by decide +kernel
theorem dX9_count_194 : decode cX9_count 194 = .ok (.aload_n 0, 1) := by decide +kernel
theorem dX9_count_195 : decode cX9_count 195 = .ok (.getfield 10, 3) := by decide +kernel
theorem dX9_count_198 : decode cX9_count 198 = .ok (.getfield 79, 3) := by decide +kernel
theorem dX9_count_201 : decode cX9_count 201 = .ok (.getfield 200, 3) := by decide +kernel
theorem dX9_count_204 : decode cX9_count 204 = .ok (.ireturn, 1) := by decide +kernel
theorem dX9_count_205 : decode cX9_count 205 = .ok (.aload_n 0, 1) := by decide +kernel
theorem dX9_count_206 : decode cX9_count 206 = .ok (.getfield 10, 3) := by decide +kernel
theorem dX9_count_209 : decode cX9_count 209 = .ok (.getfield 79, 3) := by decide +kernel
theorem dX9_count_212 : decode cX9_count 212 = .ok (.getfield 203, 3) := by decide +kernel
theorem dX9_count_215 : decode cX9_count 215 = .ok (.ireturn, 1) := by decide +kernel
theorem dX9_count_216 : decode cX9_count 216 = .ok (.aload_n 0, 1) := by decide +kernel
theorem dX9_count_217 : decode cX9_count 217 = .ok (.getfield 58, 3) := by decide +kernel
theorem dX9_count_220 : decode cX9_count 220 = .ok (.ireturn, 1) := by decide +kernel
theorem dX9_count_221 : decode cX9_count 221 = .ok (.aload_n 0, 1) := by decide +kernel
theorem dX9_count_222 : decode cX9_count 222 = .ok (.getfield 22, 3) := by decide +kernel
theorem dX9_count_225 : decode cX9_count 225 = .ok (.getfield 206, 3) := by decide +kernel
theorem dX9_count_228 : decode cX9_count 228 = .ok (.ireturn, 1) := by decide +kernel
theorem dX9_count_229 : decode cX9_count 229 = .ok (.sipush (-1001), 3) := by decide +kernel
theorem dX9_count_232 : decode cX9_count 232 = .ok (.ireturn, 1) := by decide +kernel
theorem dX9_column_0 : decode cX9_column 0 = .ok (.aload_n 0, 1) := by decide +kernel
theorem dX9_column_1 : decode cX9_column 1 = .ok (.getfield 10, 3) := by decide +kernel
theorem dX9_column_4 : decode cX9_column 4 = .ok (.getfield 66, 3) := by decide +kernel
theorem dX9_column_7 : decode cX9_column 7 = .ok (.iload_n 1, 1) := by decide +kernel
theorem dX9_column_8 : decode cX9_column 8 = .ok (.invokevirtual 209, 3) := by decide +kernel
theorem dX9_column_11 : decode cX9_column 11 = .ok (.ifCond .ne 7, 3) := by decide +kernel
theorem dX9_column_14 : decode cX9_column 14 = .ok (.sipush (-1001), 3) := by decide +kernel
theorem dX9_column_17 : decode cX9_column 17 = .ok (.ireturn, 1) := by decide +kernel
theorem dX9_column_18 : decode cX9_column 18 = .ok (.iload_n 2, 1) := by decide +kernel
theorem dX9_column_19 : decode cX9_column 19 = .ok (.tableswitch 81 0 3 #[29, 42, 55, 68], 29) := by decide +kernel
theorem dX9_column_48 : decode cX9_column 48 = .ok (.aload_n 0, 1) := by decide +kernel
theorem dX9_column_49 : decode cX9_column 49 = .ok (.getfield 10, 3) := by decide +kernel
theorem dX9_column_52 : decode cX9_column 52 = .ok (.getfield 66, 3) := by decide +kernel
theorem dX9_column_55 : decode cX9_column 55 = .ok (.getfield 212, 3) := by decide +kernel
theorem dX9_column_58 : decode cX9_column 58 = .ok (.iload_n 1, 1) := by decide +kernel
theorem dX9_column_59 : decode cX9_column 59 = .ok (.iaload, 1) := by decide +kernel
theorem dX9_column_60 : decode cX9_column 60 = .ok (.ireturn, 1) := by decide +kernel
theorem dX9_column_61 : decode cX9_column 61 = .ok (.aload_n 0, 1) := by decide +kernel
theorem dX9_column_62 : decode cX9_column 62 = .ok (.getfield 10, 3) := by decide +kernel
theorem dX9_column_65 : decode cX9_column 65 = .ok (.getfield 66, 3) := by decide +kernel
theorem dX9_column_68 : decode cX9_column 68 = .ok (.getfield 215, 3) := by decide +kernel
theorem dX9_column_71 : decode cX9_column 71 = .ok (.iload_n 1, 1) := by decide +kernel
theorem dX9_column_72 : decode cX9_column 72 = .ok (.iaload, 1) := by decide +kernel
theorem dX9_column_73 : decode cX9_column 73 = .ok (.ireturn, 1) := by decide +kernel
theorem dX9_column_74 : decode cX9_column 74 = .ok (.aload_n 0, 1) := by decide +kernel
theorem dX9_column_75 : decode cX9_column 75 = .ok (.getfield 10, 3) := by decide +kernel
theorem dX9_column_78 : decode cX9_column 78 = .ok (.getfield 66, 3) := by decide +kernel
theorem dX9_column_81 : decode cX9_column 81 = .ok (.getfield 218, 3) := by decide +kernel
theorem dX9_column_84 : decode cX9_column 84 = .ok (.iload_n 1, 1) := by decide +kernel
theorem dX9_column_85 : decode cX9_column 85 = .ok (.iaload, 1) := by decide +kernel
theorem dX9_column_86 : decode cX9_column 86 = .ok (.ireturn, 1) := by decide +kernel
theorem dX9_column_87 : decode cX9_column 87 = .ok (.aload_n 0, 1) := by decide +kernel
theorem dX9_column_88 : decode cX9_column 88 = .ok (.getfield 10, 3) := by decide +kernel
theorem dX9_column_91 : decode cX9_column 91 = .ok (.getfield 66, 3) := by decide +kernel
theorem dX9_column_94 : decode cX9_column 94 = .ok (.getfield 221, 3) := by decide +kernel
theorem dX9_column_97 : decode cX9_column 97 = .ok (.iload_n 1, 1) := by decide +kernel
theorem dX9_column_98 : decode cX9_column 98 = .ok (.iaload, 1) := by decide +kernel
theorem dX9_column_99 : decode cX9_column 99 = .ok (.ireturn, 1) := by decide +kernel
theorem dX9_column_100 : decode cX9_column 100 = .ok (.sipush (-1001), 3) := by decide +kernel
theorem dX9_column_103 : decode cX9_column 103 = .ok (.ireturn, 1) := by decide +kernel
theorem dX9_flips_0 : decode cX9_flips 0 = .ok (.aload_n 0, 1) := by decide +kernel
theorem dX9_flips_1 : decode cX9_flips 1 = .ok (.getfield 10, 3) := by decide +kernel
theorem dX9_flips_4 : decode cX9_flips 4 = .ok (.getfield 66, 3) := by decide +kernel
theorem dX9_flips_7 : decode cX9_flips 7 = .ok (.iload_n 1, 1) := by decide +kernel
theorem dX9_flips_8 : decode cX9_flips 8 = .ok (.iload_n 2, 1) := by decide +kernel
theorem dX9_flips_9 : decode cX9_flips 9 = .ok (.invokevirtual 165, 3) := by decide +kernel
theorem dX9_flips_12 : decode cX9_flips 12 = .ok (.ifCond .ne 7, 3) := by decide +kernel
theorem dX9_flips_15 : decode cX9_flips 15 = .ok (.sipush (-1001), 3) := by decide +kernel
theorem dX9_flips_18 : decode cX9_flips 18 = .ok (.ireturn, 1) := by decide +kernel
theorem dX9_flips_19 : decode cX9_flips 19 = .ok (.aload_n 0, 1) := by decide +kernel
theorem dX9_flips_20 : decode cX9_flips 20 = .ok (.getfield 10, 3) := by decide +kernel
theorem dX9_flips_23 : decode cX9_flips 23 = .ok (.getfield 66, 3) := by decide +kernel
theorem dX9_flips_26 : decode cX9_flips 26 = .ok (.iload_n 1, 1) := by decide +kernel
theorem dX9_flips_27 : decode cX9_flips 27 = .ok (.iload_n 2, 1) := by decide +kernel
theorem dX9_flips_28 : decode cX9_flips 28 = .ok (.invokevirtual 175, 3) := by decide +kernel
theorem dX9_flips_31 : decode cX9_flips 31 = .ok (.ireturn, 1) := by decide +kernel
theorem dX9_letter_0 : decode cX9_letter 0 = .ok (.iload_n 1, 1) := by decide +kernel
theorem dX9_letter_1 : decode cX9_letter 1 = .ok (.ifCond .lt 13, 3) := by decide +kernel
theorem dX9_letter_4 : decode cX9_letter 4 = .ok (.iload_n 1, 1) := by decide +kernel
theorem dX9_letter_5 : decode cX9_letter 5 = .ok (.bipush 26, 2) := by decide +kernel
theorem dX9_letter_7 : decode cX9_letter 7 = .ok (.if_icmp .ge 7, 3) := by decide +kernel
theorem dX9_letter_10 : decode cX9_letter 10 = .ok (.iload_n 2, 1) := by decide +kernel
theorem dX9_letter_11 : decode cX9_letter 11 = .ok (.ifCond .ge 7, 3) := by decide +kernel
theorem dX9_letter_14 : decode cX9_letter 14 = .ok (.sipush (-1001), 3) := by decide +kernel
theorem dX9_letter_17 : decode cX9_letter 17 = .ok (.ireturn, 1) := by decide +kernel
theorem dX9_letter_18 : decode cX9_letter 18 = .ok (.iload_n 2, 1) := by decide +kernel
theorem dX9_letter_19 : decode cX9_letter 19 = .ok (.aload_n 0, 1) := by decide +kernel
theorem dX9_letter_20 : decode cX9_letter 20 = .ok (.getfield 10, 3) := by decide +kernel
theorem dX9_letter_23 : decode cX9_letter 23 = .ok (.getfield 100, 3) := by decide +kernel
theorem dX9_letter_26 : decode cX9_letter 26 = .ok (.iload_n 1, 1) := by decide +kernel
theorem dX9_letter_27 : decode cX9_letter 27 = .ok (.invokevirtual 104, 3) := by decide +kernel
theorem dX9_letter_30 : decode cX9_letter 30 = .ok (.if_icmp .lt 7, 3) := by decide +kernel
theorem dX9_letter_33 : decode cX9_letter 33 = .ok (.sipush (-1009), 3) := by decide +kernel
theorem dX9_letter_36 : decode cX9_letter 36 = .ok (.ireturn, 1) := by decide +kernel
theorem dX9_letter_37 : decode cX9_letter 37 = .ok (.aload_n 0, 1) := by decide +kernel
theorem dX9_letter_38 : decode cX9_letter 38 = .ok (.getfield 10, 3) := by decide +kernel
theorem dX9_letter_41 : decode cX9_letter 41 = .ok (.getfield 100, 3) := by decide +kernel
theorem dX9_letter_44 : decode cX9_letter 44 = .ok (.iload_n 1, 1) := by decide +kernel
theorem dX9_letter_45 : decode cX9_letter 45 = .ok (.iload_n 2, 1) := by decide +kernel
theorem dX9_letter_46 : decode cX9_letter 46 = .ok (.invokevirtual 224, 3) := by decide +kernel
theorem dX9_letter_49 : decode cX9_letter 49 = .ok (.ireturn, 1) := by decide +kernel
theorem dX9_message_0 : decode cX9_message 0 = .ok (.aload_n 0, 1) := by decide +kernel
theorem dX9_message_1 : decode cX9_message 1 = .ok (.getfield 10, 3) := by decide +kernel
theorem dX9_message_4 : decode cX9_message 4 = .ok (.getfield 100, 3) := by decide +kernel
theorem dX9_message_7 : decode cX9_message 7 = .ok (.iload_n 1, 1) := by decide +kernel
theorem dX9_message_8 : decode cX9_message 8 = .ok (.invokevirtual 123, 3) := by decide +kernel
theorem dX9_message_11 : decode cX9_message 11 = .ok (.ifCond .eq 7, 3) := by decide +kernel
theorem dX9_message_14 : decode cX9_message 14 = .ok (.iload_n 2, 1) := by decide +kernel
theorem dX9_message_15 : decode cX9_message 15 = .ok (.ifCond .ge 7, 3) := by decide +kernel
theorem dX9_message_18 : decode cX9_message 18 = .ok (.sipush (-1001), 3) := by decide +kernel
theorem dX9_message_21 : decode cX9_message 21 = .ok (.ireturn, 1) := by decide +kernel
theorem dX9_message_22 : decode cX9_message 22 = .ok (.iload_n 2, 1) := by decide +kernel
theorem dX9_message_23 : decode cX9_message 23 = .ok (.aload_n 0, 1) := by decide +kernel
theorem dX9_message_24 : decode cX9_message 24 = .ok (.getfield 10, 3) := by decide +kernel
theorem dX9_message_27 : decode cX9_message 27 = .ok (.getfield 100, 3) := by decide +kernel
theorem dX9_message_30 : decode cX9_message 30 = .ok (.iload_n 1, 1) := by decide +kernel
theorem dX9_message_31 : decode cX9_message 31 = .ok (.invokevirtual 227, 3) := by decide +kernel
theorem dX9_message_34 : decode cX9_message 34 = .ok (.if_icmp .lt 7, 3) := by decide +kernel
theorem dX9_message_37 : decode cX9_message 37 = .ok (.sipush (-1009), 3) := by decide +kernel
theorem dX9_message_40 : decode cX9_message 40 = .ok (.ireturn, 1) := by decide +kernel
theorem dX9_message_41 : decode cX9_message 41 = .ok (.aload_n 0, 1) := by decide +kernel
theorem dX9_message_42 : decode cX9_message 42 = .ok (.getfield 10, 3) := by decide +kernel
theorem dX9_message_45 : decode cX9_message 45 = .ok (.getfield 100, 3) := by decide +kernel
theorem dX9_message_48 : decode cX9_message 48 = .ok (.iload_n 1, 1) := by decide +kernel
theorem dX9_message_49 : decode cX9_message 49 = .ok (.iload_n 2, 1) := by decide +kernel
theorem dX9_message_50 : decode cX9_message 50 = .ok (.invokevirtual 230, 3) := by decide +kernel
theorem dX9_message_53 : decode cX9_message 53 = .ok (.ireturn, 1) := by decide +kernel
theorem dX9_strip_0 : decode cX9_strip 0 = .ok (.aload_n 0, 1) := by decide +kernel
theorem dX9_strip_1 : decode cX9_strip 1 = .ok (.getfield 10, 3) := by decide +kernel
theorem dX9_strip_4 : decode cX9_strip 4 = .ok (.getfield 100, 3) := by decide +kernel
theorem dX9_strip_7 : decode cX9_strip 7 = .ok (.iload_n 1, 1) := by decide +kernel
theorem dX9_strip_8 : decode cX9_strip 8 = .ok (.invokevirtual 123, 3) := by decide +kernel
theorem dX9_strip_11 : decode cX9_strip 11 = .ok (.ifCond .ne 7, 3) := by decide +kernel
theorem dX9_strip_14 : decode cX9_strip 14 = .ok (.sipush (-1001), 3) := by decide +kernel
theorem dX9_strip_17 : decode cX9_strip 17 = .ok (.ireturn, 1) := by decide +kernel
theorem dX9_strip_18 : decode cX9_strip 18 = .ok (.aload_n 0, 1) := by decide +kernel
theorem dX9_strip_19 : decode cX9_strip 19 = .ok (.getfield 10, 3) := by decide +kernel
theorem dX9_strip_22 : decode cX9_strip 22 = .ok (.getfield 100, 3) := by decide +kernel
theorem dX9_strip_25 : decode cX9_strip 25 = .ok (.iload_n 1, 1) := by decide +kernel
theorem dX9_strip_26 : decode cX9_strip 26 = .ok (.invokevirtual 233, 3) := by decide +kernel
theorem dX9_strip_29 : decode cX9_strip 29 = .ok (.ireturn, 1) := by decide +kernel
theorem dX9_picture_0 : decode cX9_picture 0 = .ok (.aload_n 0, 1) := by decide +kernel
theorem dX9_picture_1 : decode cX9_picture 1 = .ok (.getfield 10, 3) := by decide +kernel
theorem dX9_picture_4 : decode cX9_picture 4 = .ok (.getfield 100, 3) := by decide +kernel
theorem dX9_picture_7 : decode cX9_picture 7 = .ok (.iload_n 1, 1) := by decide +kernel
theorem dX9_picture_8 : decode cX9_picture 8 = .ok (.invokevirtual 123, 3) := by decide +kernel
theorem dX9_picture_11 : decode cX9_picture 11 = .ok (.ifCond .eq 17, 3) := by decide +kernel
theorem dX9_picture_14 : decode cX9_picture 14 = .ok (.aload_n 0, 1) := by decide +kernel
theorem dX9_picture_15 : decode cX9_picture 15 = .ok (.getfield 10, 3) := by decide +kernel
theorem dX9_picture_18 : decode cX9_picture 18 = .ok (.getfield 66, 3) := by decide +kernel
theorem dX9_picture_21 : decode cX9_picture 21 = .ok (.iload_n 3, 1) := by decide +kernel
theorem dX9_picture_22 : decode cX9_picture 22 = .ok (.invokevirtual 209, 3) := by decide +kernel
theorem dX9_picture_25 : decode cX9_picture 25 = .ok (.ifCond .ne 7, 3) := by decide +kernel
theorem dX9_picture_28 : decode cX9_picture 28 = .ok (.sipush (-1001), 3) := by decide +kernel
theorem dX9_picture_31 : decode cX9_picture 31 = .ok (.ireturn, 1) := by decide +kernel
theorem dX9_picture_32 : decode cX9_picture 32 = .ok (.iload_n 2, 1) := by decide +kernel
theorem dX9_picture_33 : decode cX9_picture 33 = .ok (.bipush (-2), 2) := by decide +kernel
theorem dX9_picture_35 : decode cX9_picture 35 = .ok (.if_icmp .lt 8, 3) := by decide +kernel
theorem dX9_picture_38 : decode cX9_picture 38 = .ok (.iload_n 2, 1) := by decide +kernel
theorem dX9_picture_39 : decode cX9_picture 39 = .ok (.iconst 2, 1) := by decide +kernel
theorem dX9_picture_40 : decode cX9_picture 40 = .ok (.if_icmp .le 7, 3) := by decide +kernel
theorem dX9_picture_43 : decode cX9_picture 43 = .ok (.sipush (-1001), 3) := by decide +kernel
theorem dX9_picture_46 : decode cX9_picture 46 = .ok (.ireturn, 1) := by decide +kernel
theorem dX9_picture_47 : decode cX9_picture 47 = .ok (.aload_n 0, 1) := by decide +kernel
theorem dX9_picture_48 : decode cX9_picture 48 = .ok (.getfield 29, 3) := by decide +kernel
theorem dX9_picture_51 : decode cX9_picture 51 = .ok (.aload_n 0, 1) := by decide +kernel
theorem dX9_picture_52 : decode cX9_picture 52 = .ok (.getfield 10, 3) := by decide +kernel
theorem dX9_picture_55 : decode cX9_picture 55 = .ok (.iload_n 1, 1) := by decide +kernel
theorem dX9_picture_56 : decode cX9_picture 56 = .ok (.iload_n 2, 1) := by decide +kernel
theorem dX9_picture_57 : decode cX9_picture 57 = .ok (.aload_n 0, 1) := by decide +kernel
theorem dX9_picture_58 : decode cX9_picture 58 = .ok (.getfield 29, 3) := by decide +kernel
theorem dX9_picture_61 : decode cX9_picture 61 = .ok (.getfield 151, 3) := by decide +kernel
theorem dX9_picture_64 : decode cX9_picture 64 = .ok (.invokevirtual 236, 3) := by decide +kernel
theorem dX9_picture_67 : decode cX9_picture 67 = .ok (.aload_n 0, 1) := by decide +kernel
theorem dX9_picture_68 : decode cX9_picture 68 = .ok (.getfield 29, 3) := by decide +kernel
theorem dX9_picture_71 : decode cX9_picture 71 = .ok (.getfield 151, 3) := by decide +kernel
theorem dX9_picture_74 : decode cX9_picture 74 = .ok (.iload_n 3, 1) := by decide +kernel
theorem dX9_picture_75 : decode cX9_picture 75 = .ok (.iaload, 1) := by decide +kernel
theorem dX9_picture_76 : decode cX9_picture 76 = .ok (.ireturn, 1) := by decide +kernel
theorem dX9_power_0 : decode cX9_power 0 = .ok (.iload_n 1, 1) := by decide +kernel
theorem dX9_power_1 : decode cX9_power 1 = .ok (.iconst 1, 1) := by decide +kernel
theorem dX9_power_2 : decode cX9_power 2 = .ok (.if_icmp .lt 9, 3) := by decide +kernel
theorem dX9_power_5 : decode cX9_power 5 = .ok (.iload_n 1, 1) := by decide +kernel
theorem dX9_power_6 : decode cX9_power 6 = .ok (.bipush 20, 2) := by decide +kernel
theorem dX9_power_8 : decode cX9_power 8 = .ok (.if_icmp .le 7, 3) := by decide +kernel
theorem dX9_power_11 : decode cX9_power 11 = .ok (.sipush (-1001), 3) := by decide +kernel
theorem dX9_power_14 : decode cX9_power 14 = .ok (.ireturn, 1) := by decide +kernel
theorem dX9_power_15 : decode cX9_power 15 = .ok (.iload_n 1, 1) := by decide +kernel
theorem dX9_power_16 : decode cX9_power 16 = .ok (.aload_n 0, 1) := by decide +kernel
theorem dX9_power_17 : decode cX9_power 17 = .ok (.getfield 10, 3) := by decide +kernel
theorem dX9_power_20 : decode cX9_power 20 = .ok (.getfield 79, 3) := by decide +kernel
theorem dX9_power_23 : decode cX9_power 23 = .ok (.getfield 203, 3) := by decide +kernel
theorem dX9_power_26 : decode cX9_power 26 = .ok (.if_icmp .le 7, 3) := by decide +kernel
theorem dX9_power_29 : decode cX9_power 29 = .ok (.sipush (-1009), 3) := by decide +kernel
theorem dX9_power_32 : decode cX9_power 32 = .ok (.ireturn, 1) := by decide +kernel
theorem dX9_power_33 : decode cX9_power 33 = .ok (.aload_n 0, 1) := by decide +kernel
theorem dX9_power_34 : decode cX9_power 34 = .ok (.getfield 10, 3) := by decide +kernel
theorem dX9_power_37 : decode cX9_power 37 = .ok (.getfield 79, 3) := by decide +kernel
theorem dX9_power_40 : decode cX9_power 40 = .ok (.iload_n 1, 1) := by decide +kernel
theorem dX9_power_41 : decode cX9_power 41 = .ok (.invokevirtual 240, 3) := by decide +kernel
theorem dX9_power_44 : decode cX9_power 44 = .ok (.ireturn, 1) := by decide +kernel
theorem dX9_bestShift_0 : decode cX9_bestShift 0 = .ok (.aload_n 0, 1) := by decide +kernel
theorem dX9_bestShift_1 : decode cX9_bestShift 1 = .ok (.getfield 10, 3) := by decide +kernel
theorem dX9_bestShift_4 : decode cX9_bestShift 4 = .ok (.getfield 100, 3) := by decide +kernel
theorem dX9_bestShift_7 : decode cX9_bestShift 7 = .ok (.iload_n 1, 1) := by decide +kernel
theorem dX9_bestShift_8 : decode cX9_bestShift 8 = .ok (.invokevirtual 123, 3) := by decide +kernel
theorem dX9_bestShift_11 : decode cX9_bestShift 11 = .ok (.ifCond .ne 7, 3) := by decide +kernel
theorem dX9_bestShift_14 : decode cX9_bestShift 14 = .ok (.sipush (-1001), 3) := by decide +kernel
theorem dX9_bestShift_17 : decode cX9_bestShift 17 = .ok (.ireturn, 1) := by decide +kernel
theorem dX9_bestShift_18 : decode cX9_bestShift 18 = .ok (.aload_n 0, 1) := by decide +kernel
theorem dX9_bestShift_19 : decode cX9_bestShift 19 = .ok (.getfield 29, 3) := by decide +kernel
theorem dX9_bestShift_22 : decode cX9_bestShift 22 = .ok (.aload_n 0, 1) := by decide +kernel
theorem dX9_bestShift_23 : decode cX9_bestShift 23 = .ok (.getfield 10, 3) := by decide +kernel
theorem dX9_bestShift_26 : decode cX9_bestShift 26 = .ok (.iload_n 1, 1) := by decide +kernel
theorem dX9_bestShift_27 : decode cX9_bestShift 27 = .ok (.invokevirtual 243, 3) := by decide +kernel
theorem dX9_bestShift_30 : decode cX9_bestShift 30 = .ok (.ireturn, 1) := by decide +kernel
theorem dX9_due_0 : decode cX9_due 0 = .ok (.aload_n 0, 1) := by decide +kernel
theorem dX9_due_1 : decode cX9_due 1 = .ok (.iload_n 1, 1) := by decide +kernel
theorem dX9_due_2 : decode cX9_due 2 = .ok (.iload_n 2, 1) := by decide +kernel
theorem dX9_due_3 : decode cX9_due 3 = .ok (.invokevirtual 143, 3) := by decide +kernel
theorem dX9_due_6 : decode cX9_due 6 = .ok (.ifCond .ne 7, 3) := by decide +kernel
theorem dX9_due_9 : decode cX9_due 9 = .ok (.sipush (-1001), 3) := by decide +kernel
theorem dX9_due_12 : decode cX9_due 12 = .ok (.ireturn, 1) := by decide +kernel
theorem dX9_due_13 : decode cX9_due 13 = .ok (.aload_n 0, 1) := by decide +kernel
theorem dX9_due_14 : decode cX9_due 14 = .ok (.getfield 29, 3) := by decide +kernel
theorem dX9_due_17 : decode cX9_due 17 = .ok (.aload_n 0, 1) := by decide +kernel
theorem dX9_due_18 : decode cX9_due 18 = .ok (.getfield 10, 3) := by decide +kernel
theorem dX9_due_21 : decode cX9_due 21 = .ok (.iload_n 1, 1) := by decide +kernel
theorem dX9_due_22 : decode cX9_due 22 = .ok (.iload_n 2, 1) := by decide +kernel
theorem dX9_due_23 : decode cX9_due 23 = .ok (.invokevirtual 147, 3) := by decide +kernel
theorem dX9_due_26 : decode cX9_due 26 = .ok (.aload_n 0, 1) := by decide +kernel
theorem dX9_due_27 : decode cX9_due 27 = .ok (.getfield 10, 3) := by decide +kernel
theorem dX9_due_30 : decode cX9_due 30 = .ok (.getfield 66, 3) := by decide +kernel
theorem dX9_due_33 : decode cX9_due 33 = .ok (.aload_n 0, 1) := by decide +kernel
theorem dX9_due_34 : decode cX9_due 34 = .ok (.getfield 29, 3) := by decide +kernel
theorem dX9_due_37 : decode cX9_due 37 = .ok (.getfield 151, 3) := by decide +kernel
theorem dX9_due_40 : decode cX9_due 40 = .ok (.aload_n 0, 1) := by decide +kernel
theorem dX9_due_41 : decode cX9_due 41 = .ok (.getfield 10, 3) := by decide +kernel
theorem dX9_due_44 : decode cX9_due 44 = .ok (.getfield 66, 3) := by decide +kernel
theorem dX9_due_47 : decode cX9_due 47 = .ok (.getfield 212, 3) := by decide +kernel
theorem dX9_due_50 : decode cX9_due 50 = .ok (.invokevirtual 247, 3) := by decide +kernel
theorem dX9_due_53 : decode cX9_due 53 = .ok (.ireturn, 1) := by decide +kernel
theorem dX9_secondsFor_0 : decode cX9_secondsFor 0 = .ok (.aload_n 0, 1) := by decide +kernel
theorem dX9_secondsFor_1 : decode cX9_secondsFor 1 = .ok (.iload_n 1, 1) := by decide +kernel
theorem dX9_secondsFor_2 : decode cX9_secondsFor 2 = .ok (.iload_n 2, 1) := by decide +kernel
theorem dX9_secondsFor_3 : decode cX9_secondsFor 3 = .ok (.invokevirtual 143, 3) := by decide +kernel
theorem dX9_secondsFor_6 : decode cX9_secondsFor 6 = .ok (.ifCond .ne 7, 3) := by decide +kernel
theorem dX9_secondsFor_9 : decode cX9_secondsFor 9 = .ok (.sipush (-1001), 3) := by decide +kernel
theorem dX9_secondsFor_12 : decode cX9_secondsFor 12 = .ok (.ireturn, 1) := by decide +kernel
theorem dX9_secondsFor_13 : decode cX9_secondsFor 13 = .ok (.aload_n 0, 1) := by decide +kernel
theorem dX9_secondsFor_14 : decode cX9_secondsFor 14 = .ok (.getfield 29, 3) := by decide +kernel
theorem dX9_secondsFor_17 : decode cX9_secondsFor 17 = .ok (.aload_n 0, 1) := by decide +kernel
theorem dX9_secondsFor_18 : decode cX9_secondsFor 18 = .ok (.getfield 10, 3) := by decide +kernel
theorem dX9_secondsFor_21 : decode cX9_secondsFor 21 = .ok (.iload_n 1, 1) := by decide +kernel
theorem dX9_secondsFor_22 : decode cX9_secondsFor 22 = .ok (.iload_n 2, 1) := by decide +kernel
theorem dX9_secondsFor_23 : decode cX9_secondsFor 23 = .ok (.invokevirtual 147, 3) := by decide +kernel
theorem dX9_secondsFor_26 : decode cX9_secondsFor 26 = .ok (.aload_n 0, 1) := by decide +kernel
theorem dX9_secondsFor_27 : decode cX9_secondsFor 27 = .ok (.getfield 16, 3) := by decide +kernel
theorem dX9_secondsFor_30 : decode cX9_secondsFor 30 = .ok (.aload_n 0, 1) := by decide +kernel
theorem dX9_secondsFor_31 : decode cX9_secondsFor 31 = .ok (.getfield 10, 3) := by decide +kernel
theorem dX9_secondsFor_34 : decode cX9_secondsFor 34 = .ok (.invokevirtual 251, 3) := by decide +kernel
theorem dX9_secondsFor_37 : decode cX9_secondsFor 37 = .ok (.aload_n 0, 1) := by decide +kernel
theorem dX9_secondsFor_38 : decode cX9_secondsFor 38 = .ok (.getfield 16, 3) := by decide +kernel
theorem dX9_secondsFor_41 : decode cX9_secondsFor 41 = .ok (.getfield 66, 3) := by decide +kernel
theorem dX9_secondsFor_44 : decode cX9_secondsFor 44 = .ok (.aload_n 0, 1) := by decide +kernel
theorem dX9_secondsFor_45 : decode cX9_secondsFor 45 = .ok (.getfield 29, 3) := by decide +kernel
theorem dX9_secondsFor_48 : decode cX9_secondsFor 48 = .ok (.getfield 151, 3) := by decide +kernel
theorem dX9_secondsFor_51 : decode cX9_secondsFor 51 = .ok (.invokevirtual 154, 3) := by decide +kernel
theorem dX9_secondsFor_54 : decode cX9_secondsFor 54 = .ok (.iconst 0, 1) := by decide +kernel
theorem dX9_secondsFor_55 : decode cX9_secondsFor 55 = .ok (.istore_n 3, 1) := by decide +kernel
theorem dX9_secondsFor_56 : decode cX9_secondsFor 56 = .ok (.iload_n 3, 1) := by decide +kernel
theorem dX9_secondsFor_57 : decode cX9_secondsFor 57 = .ok (.sipush 300, 3) := by decide +kernel
theorem dX9_secondsFor_60 : decode cX9_secondsFor 60 = .ok (.if_icmp .gt 35, 3) := by decide +kernel
theorem dX9_secondsFor_63 : decode cX9_secondsFor 63 = .ok (.aload_n 0, 1) := by decide +kernel
theorem dX9_secondsFor_64 : decode cX9_secondsFor 64 = .ok (.getfield 16, 3) := by decide +kernel
theorem dX9_secondsFor_67 : decode cX9_secondsFor 67 = .ok (.getfield 66, 3) := by decide +kernel
theorem dX9_secondsFor_70 : decode cX9_secondsFor 70 = .ok (.invokevirtual 158, 3) := by decide +kernel
theorem dX9_secondsFor_73 : decode cX9_secondsFor 73 = .ok (.ifCond .ne 5, 3) := by decide +kernel
theorem dX9_secondsFor_76 : decode cX9_secondsFor 76 = .ok (.iload_n 3, 1) := by decide +kernel
theorem dX9_secondsFor_77 : decode cX9_secondsFor 77 = .ok (.ireturn, 1) := by decide +kernel
theorem dX9_secondsFor_78 : decode cX9_secondsFor 78 = .ok (.aload_n 0, 1) := by decide +kernel
theorem dX9_secondsFor_79 : decode cX9_secondsFor 79 = .ok (.getfield 36, 3) := by decide +kernel
theorem dX9_secondsFor_82 : decode cX9_secondsFor 82 = .ok (.aload_n 0, 1) := by decide +kernel
theorem dX9_secondsFor_83 : decode cX9_secondsFor 83 = .ok (.getfield 16, 3) := by decide +kernel
theorem dX9_secondsFor_86 : decode cX9_secondsFor 86 = .ok (.invokevirtual 182, 3) := by decide +kernel
theorem dX9_secondsFor_89 : decode cX9_secondsFor 89 = .ok (.iinc 3 1, 3) := by decide +kernel
theorem dX9_secondsFor_92 : decode cX9_secondsFor 92 = .ok (.goto (-36), 3) := by decide +kernel
theorem dX9_secondsFor_95 : decode cX9_secondsFor 95 = .ok (.sipush (-1009), 3) := by decide +kernel
theorem dX9_secondsFor_98 : decode cX9_secondsFor 98 = .ok (.ireturn, 1) := by decide +kernel
theorem dX9_between_0 : decode cX9_between 0 = .ok (.aload_n 0, 1) := by decide +kernel
theorem dX9_between_1 : decode cX9_between 1 = .ok (.getfield 10, 3) := by decide +kernel
theorem dX9_between_4 : decode cX9_between 4 = .ok (.getfield 100, 3) := by decide +kernel
theorem dX9_between_7 : decode cX9_between 7 = .ok (.iload_n 1, 1) := by decide +kernel
theorem dX9_between_8 : decode cX9_between 8 = .ok (.invokevirtual 123, 3) := by decide +kernel
theorem dX9_between_11 : decode cX9_between 11 = .ok (.ifCond .eq 17, 3) := by decide +kernel
theorem dX9_between_14 : decode cX9_between 14 = .ok (.aload_n 0, 1) := by decide +kernel
theorem dX9_between_15 : decode cX9_between 15 = .ok (.getfield 10, 3) := by decide +kernel
theorem dX9_between_18 : decode cX9_between 18 = .ok (.getfield 100, 3) := by decide +kernel
theorem dX9_between_21 : decode cX9_between 21 = .ok (.iload_n 2, 1) := by decide +kernel
theorem dX9_between_22 : decode cX9_between 22 = .ok (.invokevirtual 123, 3) := by decide +kernel
theorem dX9_between_25 : decode cX9_between 25 = .ok (.ifCond .ne 7, 3) := by decide +kernel
theorem dX9_between_28 : decode cX9_between 28 = .ok (.sipush (-1001), 3) := by decide +kernel
theorem dX9_between_31 : decode cX9_between 31 = .ok (.ireturn, 1) := by decide +kernel
theorem dX9_between_32 : decode cX9_between 32 = .ok (.aload_n 0, 1) := by decide +kernel
theorem dX9_between_33 : decode cX9_between 33 = .ok (.getfield 29, 3) := by decide +kernel
theorem dX9_between_36 : decode cX9_between 36 = .ok (.aload_n 0, 1) := by decide +kernel
theorem dX9_between_37 : decode cX9_between 37 = .ok (.getfield 10, 3) := by decide +kernel
theorem dX9_between_40 : decode cX9_between 40 = .ok (.iload_n 1, 1) := by decide +kernel
theorem dX9_between_41 : decode cX9_between 41 = .ok (.iconst 0, 1) := by decide +kernel
theorem dX9_between_42 : decode cX9_between 42 = .ok (.aload_n 0, 1) := by decide +kernel
theorem dX9_between_43 : decode cX9_between 43 = .ok (.getfield 29, 3) := by decide +kernel
theorem dX9_between_46 : decode cX9_between 46 = .ok (.getfield 151, 3) := by decide +kernel
theorem dX9_between_49 : decode cX9_between 49 = .ok (.invokevirtual 236, 3) := by decide +kernel
theorem dX9_between_52 : decode cX9_between 52 = .ok (.aload_n 0, 1) := by decide +kernel
theorem dX9_between_53 : decode cX9_between 53 = .ok (.getfield 29, 3) := by decide +kernel
theorem dX9_between_56 : decode cX9_between 56 = .ok (.aload_n 0, 1) := by decide +kernel
theorem dX9_between_57 : decode cX9_between 57 = .ok (.getfield 10, 3) := by decide +kernel
theorem dX9_between_60 : decode cX9_between 60 = .ok (.iload_n 2, 1) := by decide +kernel
theorem dX9_between_61 : decode cX9_between 61 = .ok (.iconst 0, 1) := by decide +kernel
theorem dX9_between_62 : decode cX9_between 62 = .ok (.aload_n 0, 1) := by decide +kernel
theorem dX9_between_63 : decode cX9_between 63 = .ok (.getfield 29, 3) := by decide +kernel
theorem dX9_between_66 : decode cX9_between 66 = .ok (.getfield 253, 3) := by decide +kernel
theorem dX9_between_69 : decode cX9_between 69 = .ok (.invokevirtual 236, 3) := by decide +kernel
theorem dX9_between_72 : decode cX9_between 72 = .ok (.aload_n 0, 1) := by decide +kernel
theorem dX9_between_73 : decode cX9_between 73 = .ok (.getfield 10, 3) := by decide +kernel
theorem dX9_between_76 : decode cX9_between 76 = .ok (.getfield 66, 3) := by decide +kernel
theorem dX9_between_79 : decode cX9_between 79 = .ok (.aload_n 0, 1) := by decide +kernel
theorem dX9_between_80 : decode cX9_between 80 = .ok (.getfield 29, 3) := by decide +kernel
theorem dX9_between_83 : decode cX9_between 83 = .ok (.getfield 151, 3) := by decide +kernel
theorem dX9_between_86 : decode cX9_between 86 = .ok (.aload_n 0, 1) := by decide +kernel
theorem dX9_between_87 : decode cX9_between 87 = .ok (.getfield 29, 3) := by decide +kernel
theorem dX9_between_90 : decode cX9_between 90 = .ok (.getfield 253, 3) := by decide +kernel
theorem dX9_between_93 : decode cX9_between 93 = .ok (.invokevirtual 247, 3) := by decide +kernel
theorem dX9_between_96 : decode cX9_between 96 = .ok (.ireturn, 1) := by decide +kernel
theorem dX9_bestOrder_0 : decode cX9_bestOrder 0 = .ok (.aload_n 0, 1) := by decide +kernel
theorem dX9_bestOrder_1 : decode cX9_bestOrder 1 = .ok (.iload_n 1, 1) := by decide +kernel
theorem dX9_bestOrder_2 : decode cX9_bestOrder 2 = .ok (.invokevirtual 256, 3) := by decide +kernel
theorem dX9_bestOrder_5 : decode cX9_bestOrder 5 = .ok (.ifCond .eq 12, 3) := by decide +kernel
theorem dX9_bestOrder_8 : decode cX9_bestOrder 8 = .ok (.iload_n 2, 1) := by decide +kernel
theorem dX9_bestOrder_9 : decode cX9_bestOrder 9 = .ok (.ifCond .lt 8, 3) := by decide +kernel
theorem dX9_bestOrder_12 : decode cX9_bestOrder 12 = .ok (.iload_n 2, 1) := by decide +kernel
theorem dX9_bestOrder_13 : decode cX9_bestOrder 13 = .ok (.iconst 5, 1) := by decide +kernel
theorem dX9_bestOrder_14 : decode cX9_bestOrder 14 = .ok (.if_icmp .le 7, 3) := by decide +kernel
theorem dX9_bestOrder_17 : decode cX9_bestOrder 17 = .ok (.sipush (-1001), 3) := by decide +kernel
theorem dX9_bestOrder_20 : decode cX9_bestOrder 20 = .ok (.ireturn, 1) := by decide +kernel
theorem dX9_bestOrder_21 : decode cX9_bestOrder 21 = .ok (.iload_n 2, 1) := by decide +kernel
theorem dX9_bestOrder_22 : decode cX9_bestOrder 22 = .ok (.iload_n 1, 1) := by decide +kernel
theorem dX9_bestOrder_23 : decode cX9_bestOrder 23 = .ok (.invokestatic 259, 3) := by decide +kernel
theorem dX9_bestOrder_26 : decode cX9_bestOrder 26 = .ok (.if_icmp .le 7, 3) := by decide +kernel
theorem dX9_bestOrder_29 : decode cX9_bestOrder 29 = .ok (.sipush (-1009), 3) := by decide +kernel
theorem dX9_bestOrder_32 : decode cX9_bestOrder 32 = .ok (.ireturn, 1) := by decide +kernel
theorem dX9_bestOrder_33 : decode cX9_bestOrder 33 = .ok (.aload_n 0, 1) := by decide +kernel
theorem dX9_bestOrder_34 : decode cX9_bestOrder 34 = .ok (.getfield 50, 3) := by decide +kernel
theorem dX9_bestOrder_37 : decode cX9_bestOrder 37 = .ok (.aload_n 0, 1) := by decide +kernel
theorem dX9_bestOrder_38 : decode cX9_bestOrder 38 = .ok (.getfield 10, 3) := by decide +kernel
theorem dX9_bestOrder_41 : decode cX9_bestOrder 41 = .ok (.iload_n 1, 1) := by decide +kernel
theorem dX9_bestOrder_42 : decode cX9_bestOrder 42 = .ok (.aload_n 0, 1) := by decide +kernel
theorem dX9_bestOrder_43 : decode cX9_bestOrder 43 = .ok (.getfield 29, 3) := by decide +kernel
theorem dX9_bestOrder_46 : decode cX9_bestOrder 46 = .ok (.invokevirtual 264, 3) := by decide +kernel
theorem dX9_bestOrder_49 : decode cX9_bestOrder 49 = .ok (.iload_n 2, 1) := by decide +kernel
theorem dX9_bestOrder_50 : decode cX9_bestOrder 50 = .ok (.ifCond .ne 13, 3) := by decide +kernel
theorem dX9_bestOrder_53 : decode cX9_bestOrder 53 = .ok (.aload_n 0, 1) := by decide +kernel
theorem dX9_bestOrder_54 : decode cX9_bestOrder 54 = .ok (.getfield 50, 3) := by decide +kernel
theorem dX9_bestOrder_57 : decode cX9_bestOrder 57 = .ok (.invokevirtual 268, 3) := by decide +kernel
theorem dX9_bestOrder_60 : decode cX9_bestOrder 60 = .ok (.goto 11, 3) := by decide +kernel
theorem dX9_bestOrder_63 : decode cX9_bestOrder 63 = .ok (.aload_n 0, 1) := by decide +kernel
theorem dX9_bestOrder_64 : decode cX9_bestOrder 64 = .ok (.getfield 50, 3) := by decide +kernel
theorem dX9_bestOrder_67 : decode cX9_bestOrder 67 = .ok (.iload_n 2, 1) := by decide +kernel
theorem dX9_bestOrder_68 : decode cX9_bestOrder 68 = .ok (.invokevirtual 271, 3) := by decide +kernel
theorem dX9_bestOrder_71 : decode cX9_bestOrder 71 = .ok (.ireturn, 1) := by decide +kernel
theorem dX9_undo_0 : decode cX9_undo 0 = .ok (.aload_n 0, 1) := by decide +kernel
theorem dX9_undo_1 : decode cX9_undo 1 = .ok (.getfield 22, 3) := by decide +kernel
theorem dX9_undo_4 : decode cX9_undo 4 = .ok (.getfield 206, 3) := by decide +kernel
theorem dX9_undo_7 : decode cX9_undo 7 = .ok (.ifCond .ne 7, 3) := by decide +kernel
theorem dX9_undo_10 : decode cX9_undo 10 = .ok (.sipush (-1002), 3) := by decide +kernel
theorem dX9_undo_13 : decode cX9_undo 13 = .ok (.ireturn, 1) := by decide +kernel
theorem dX9_undo_14 : decode cX9_undo 14 = .ok (.aload_n 0, 1) := by decide +kernel
theorem dX9_undo_15 : decode cX9_undo 15 = .ok (.getfield 22, 3) := by decide +kernel
theorem dX9_undo_18 : decode cX9_undo 18 = .ok (.aload_n 0, 1) := by decide +kernel
theorem dX9_undo_19 : decode cX9_undo 19 = .ok (.getfield 10, 3) := by decide +kernel
theorem dX9_undo_22 : decode cX9_undo 22 = .ok (.invokevirtual 274, 3) := by decide +kernel
theorem dX9_undo_25 : decode cX9_undo 25 = .ok (.aload_n 0, 1) := by decide +kernel
theorem dX9_undo_26 : decode cX9_undo 26 = .ok (.getfield 22, 3) := by decide +kernel
theorem dX9_undo_29 : decode cX9_undo 29 = .ok (.getfield 206, 3) := by decide +kernel
theorem dX9_undo_32 : decode cX9_undo 32 = .ok (.ireturn, 1) := by decide +kernel
theorem dX9_canShow_0 : decode cX9_canShow 0 = .ok (.aload_n 0, 1) := by decide +kernel
theorem dX9_canShow_1 : decode cX9_canShow 1 = .ok (.getfield 10, 3) := by decide +kernel
theorem dX9_canShow_4 : decode cX9_canShow 4 = .ok (.getfield 100, 3) := by decide +kernel
theorem dX9_canShow_7 : decode cX9_canShow 7 = .ok (.iload_n 1, 1) := by decide +kernel
theorem dX9_canShow_8 : decode cX9_canShow 8 = .ok (.invokevirtual 123, 3) := by decide +kernel
theorem dX9_canShow_11 : decode cX9_canShow 11 = .ok (.ifCond .eq 16, 3) := by decide +kernel
theorem dX9_canShow_14 : decode cX9_canShow 14 = .ok (.iload_n 2, 1) := by decide +kernel
theorem dX9_canShow_15 : decode cX9_canShow 15 = .ok (.ifCond .lt 12, 3) := by decide +kernel
theorem dX9_canShow_18 : decode cX9_canShow 18 = .ok (.iload_n 2, 1) := by decide +kernel
theorem dX9_canShow_19 : decode cX9_canShow 19 = .ok (.iconst 1, 1) := by decide +kernel
theorem dX9_canShow_20 : decode cX9_canShow 20 = .ok (.if_icmp .gt 7, 3) := by decide +kernel
theorem dX9_canShow_23 : decode cX9_canShow 23 = .ok (.iconst 1, 1) := by decide +kernel
theorem dX9_canShow_24 : decode cX9_canShow 24 = .ok (.goto 4, 3) := by decide +kernel
theorem dX9_canShow_27 : decode cX9_canShow 27 = .ok (.iconst 0, 1) := by decide +kernel
theorem dX9_canShow_28 : decode cX9_canShow 28 = .ok (.ireturn, 1) := by decide +kernel
theorem dX9_isSetToOrder_0 : decode cX9_isSetToOrder 0 = .ok (.iload_n 1, 1) := by decide +kernel
theorem dX9_isSetToOrder_1 : decode cX9_isSetToOrder 1 = .ok (.ifCond .le 31, 3) := by decide +kernel
theorem dX9_isSetToOrder_4 : decode cX9_isSetToOrder 4 = .ok (.iload_n 1, 1) := by decide +kernel
theorem dX9_isSetToOrder_5 : decode cX9_isSetToOrder 5 = .ok (.iconst 1, 1) := by decide +kernel
theorem dX9_isSetToOrder_6 : decode cX9_isSetToOrder 6 = .ok (.aload_n 0, 1) := by decide +kernel
theorem dX9_isSetToOrder_7 : decode cX9_isSetToOrder 7 = .ok (.getfield 10, 3) := by decide +kernel
theorem dX9_isSetToOrder_10 : decode cX9_isSetToOrder 10 = .ok (.getfield 100, 3) := by decide +kernel
theorem dX9_isSetToOrder_13 : decode cX9_isSetToOrder 13 = .ok (.getfield 114, 3) := by decide +kernel
theorem dX9_isSetToOrder_16 : decode cX9_isSetToOrder 16 = .ok (.ishl, 1) := by decide +kernel
theorem dX9_isSetToOrder_17 : decode cX9_isSetToOrder 17 = .ok (.if_icmp .ge 15, 3) := by decide +kernel
theorem dX9_isSetToOrder_20 : decode cX9_isSetToOrder 20 = .ok (.iload_n 1, 1) := by decide +kernel
theorem dX9_isSetToOrder_21 : decode cX9_isSetToOrder 21 = .ok (.invokestatic 259, 3) := by decide +kernel
theorem dX9_isSetToOrder_24 : decode cX9_isSetToOrder 24 = .ok (.iconst 5, 1) := by decide +kernel
theorem dX9_isSetToOrder_25 : decode cX9_isSetToOrder 25 = .ok (.if_icmp .gt 7, 3) := by decide +kernel
theorem dX9_isSetToOrder_28 : decode cX9_isSetToOrder 28 = .ok (.iconst 1, 1) := by decide +kernel
theorem dX9_isSetToOrder_29 : decode cX9_isSetToOrder 29 = .ok (.goto 4, 3) := by decide +kernel
theorem dX9_isSetToOrder_32 : decode cX9_isSetToOrder 32 = .ok (.iconst 0, 1) := by decide +kernel
theorem dX9_isSetToOrder_33 : decode cX9_isSetToOrder 33 = .ok (.ireturn, 1) := by decide +kernel
theorem dX9_copy_0 : decode cX9_copy 0 = .ok (.aload_n 0, 1) := by decide +kernel
theorem dX9_copy_1 : decode cX9_copy 1 = .ok (.iconst 0, 1) := by decide +kernel
theorem dX9_copy_2 : decode cX9_copy 2 = .ok (.aload_n 1, 1) := by decide +kernel
theorem dX9_copy_3 : decode cX9_copy 3 = .ok (.iconst 0, 1) := by decide +kernel
theorem dX9_copy_4 : decode cX9_copy 4 = .ok (.aload_n 0, 1) := by decide +kernel
theorem dX9_copy_5 : decode cX9_copy 5 = .ok (.arraylength, 1) := by decide +kernel
theorem dX9_copy_6 : decode cX9_copy 6 = .ok (.aload_n 1, 1) := by decide +kernel
theorem dX9_copy_7 : decode cX9_copy 7 = .ok (.arraylength, 1) := by decide +kernel
theorem dX9_copy_8 : decode cX9_copy 8 = .ok (.invokestatic 277, 3) := by decide +kernel
theorem dX9_copy_11 : decode cX9_copy 11 = .ok (.invokestatic 282, 3) := by decide +kernel
theorem dX9_copy_14 : decode cX9_copy 14 = .ok (.return_, 1) := by decide +kernel
theorem dJ6_bitCount_0f7a4_0 : decode cJ6_bitCount_0f7a4 0 = .ok (.iload_n 0, 1) := by decide +kernel
theorem dJ6_bitCount_0f7a4_1 : decode cJ6_bitCount_0f7a4 1 = .ok (.iload_n 0, 1) := by decide +kernel
theorem dJ6_bitCount_0f7a4_2 : decode cJ6_bitCount_0f7a4 2 = .ok (.iconst 1, 1) := by decide +kernel
theorem dJ6_bitCount_0f7a4_3 : decode cJ6_bitCount_0f7a4 3 = .ok (.iushr, 1) := by decide +kernel
theorem dJ6_bitCount_0f7a4_4 : decode cJ6_bitCount_0f7a4 4 = .ok (.ldc_w 265, 3) := by decide +kernel
theorem dJ6_bitCount_0f7a4_7 : decode cJ6_bitCount_0f7a4 7 = .ok (.iand, 1) := by decide +kernel
theorem dJ6_bitCount_0f7a4_8 : decode cJ6_bitCount_0f7a4 8 = .ok (.isub, 1) := by decide +kernel
theorem dJ6_bitCount_0f7a4_9 : decode cJ6_bitCount_0f7a4 9 = .ok (.istore_n 0, 1) := by decide +kernel
theorem dJ6_bitCount_0f7a4_10 : decode cJ6_bitCount_0f7a4 10 = .ok (.iload_n 0, 1) := by decide +kernel
theorem dJ6_bitCount_0f7a4_11 : decode cJ6_bitCount_0f7a4 11 = .ok (.ldc_w 266, 3) := by decide +kernel
theorem dJ6_bitCount_0f7a4_14 : decode cJ6_bitCount_0f7a4 14 = .ok (.iand, 1) := by decide +kernel
theorem dJ6_bitCount_0f7a4_15 : decode cJ6_bitCount_0f7a4 15 = .ok (.iload_n 0, 1) := by decide +kernel
theorem dJ6_bitCount_0f7a4_16 : decode cJ6_bitCount_0f7a4 16 = .ok (.iconst 2, 1) := by decide +kernel
theorem dJ6_bitCount_0f7a4_17 : decode cJ6_bitCount_0f7a4 17 = .ok (.iushr, 1) := by decide +kernel
theorem dJ6_bitCount_0f7a4_18 : decode cJ6_bitCount_0f7a4 18 = .ok (.ldc_w 266, 3) := by decide +kernel
theorem dJ6_bitCount_0f7a4_21 : decode cJ6_bitCount_0f7a4 21 = .ok (.iand, 1) := by decide +kernel
theorem dJ6_bitCount_0f7a4_22 : decode cJ6_bitCount_0f7a4 22 = .ok (.iadd, 1) := by decide +kernel
theorem dJ6_bitCount_0f7a4_23 : decode cJ6_bitCount_0f7a4 23 = .ok (.istore_n 0, 1) := by decide +kernel
theorem dJ6_bitCount_0f7a4_24 : decode cJ6_bitCount_0f7a4 24 = .ok (.iload_n 0, 1) := by decide +kernel
theorem dJ6_bitCount_0f7a4_25 : decode cJ6_bitCount_0f7a4 25 = .ok (.iload_n 0, 1) := by decide +kernel
theorem dJ6_bitCount_0f7a4_26 : decode cJ6_bitCount_0f7a4 26 = .ok (.iconst 4, 1) := by decide +kernel
theorem dJ6_bitCount_0f7a4_27 : decode cJ6_bitCount_0f7a4 27 = .ok (.iushr, 1) := by decide +kernel
theorem dJ6_bitCount_0f7a4_28 : decode cJ6_bitCount_0f7a4 28 = .ok (.iadd, 1) := by decide +kernel
theorem dJ6_bitCount_0f7a4_29 : decode cJ6_bitCount_0f7a4 29 = .ok (.ldc_w 267, 3) := by decide +kernel
theorem dJ6_bitCount_0f7a4_32 : decode cJ6_bitCount_0f7a4 32 = .ok (.iand, 1) := by decide +kernel
theorem dJ6_bitCount_0f7a4_33 : decode cJ6_bitCount_0f7a4 33 = .ok (.istore_n 0, 1) := by decide +kernel
theorem dJ6_bitCount_0f7a4_34 : decode cJ6_bitCount_0f7a4 34 = .ok (.iload_n 0, 1) := by decide +kernel
theorem dJ6_bitCount_0f7a4_35 : decode cJ6_bitCount_0f7a4 35 = .ok (.iload_n 0, 1) := by decide +kernel
theorem dJ6_bitCount_0f7a4_36 : decode cJ6_bitCount_0f7a4 36 = .ok (.bipush 8, 2) := by decide +kernel
theorem dJ6_bitCount_0f7a4_38 : decode cJ6_bitCount_0f7a4 38 = .ok (.iushr, 1) := by decide +kernel
theorem dJ6_bitCount_0f7a4_39 : decode cJ6_bitCount_0f7a4 39 = .ok (.iadd, 1) := by decide +kernel
theorem dJ6_bitCount_0f7a4_40 : decode cJ6_bitCount_0f7a4 40 = .ok (.istore_n 0, 1) := by decide +kernel
theorem dJ6_bitCount_0f7a4_41 : decode cJ6_bitCount_0f7a4 41 = .ok (.iload_n 0, 1) := by decide +kernel
theorem dJ6_bitCount_0f7a4_42 : decode cJ6_bitCount_0f7a4 42 = .ok (.iload_n 0, 1) := by decide +kernel
theorem dJ6_bitCount_0f7a4_43 : decode cJ6_bitCount_0f7a4 43 = .ok (.bipush 16, 2) := by decide +kernel
theorem dJ6_bitCount_0f7a4_45 : decode cJ6_bitCount_0f7a4 45 = .ok (.iushr, 1) := by decide +kernel
theorem dJ6_bitCount_0f7a4_46 : decode cJ6_bitCount_0f7a4 46 = .ok (.iadd, 1) := by decide +kernel
theorem dJ6_bitCount_0f7a4_47 : decode cJ6_bitCount_0f7a4 47 = .ok (.istore_n 0, 1) := by decide +kernel
theorem dJ6_bitCount_0f7a4_48 : decode cJ6_bitCount_0f7a4 48 = .ok (.iload_n 0, 1) := by decide +kernel
theorem dJ6_bitCount_0f7a4_49 : decode cJ6_bitCount_0f7a4 49 = .ok (.bipush 63, 2) := by decide +kernel
theorem dJ6_bitCount_0f7a4_51 : decode cJ6_bitCount_0f7a4 51 = .ok (.iand, 1) := by decide +kernel
theorem dJ6_bitCount_0f7a4_52 : decode cJ6_bitCount_0f7a4 52 = .ok (.ireturn, 1) := by decide +kernel
theorem dJ9_floorMod_7cf53_0 : decode cJ9_floorMod_7cf53 0 = .ok (.iload_n 0, 1) := by decide +kernel
theorem dJ9_floorMod_7cf53_1 : decode cJ9_floorMod_7cf53 1 = .ok (.iload_n 1, 1) := by decide +kernel
theorem dJ9_floorMod_7cf53_2 : decode cJ9_floorMod_7cf53 2 = .ok (.irem, 1) := by decide +kernel
theorem dJ9_floorMod_7cf53_3 : decode cJ9_floorMod_7cf53 3 = .ok (.istore_n 2, 1) := by decide +kernel
theorem dJ9_floorMod_7cf53_4 : decode cJ9_floorMod_7cf53 4 = .ok (.iload_n 0, 1) := by decide +kernel
theorem dJ9_floorMod_7cf53_5 : decode cJ9_floorMod_7cf53 5 = .ok (.iload_n 1, 1) := by decide +kernel
theorem dJ9_floorMod_7cf53_6 : decode cJ9_floorMod_7cf53 6 = .ok (.ixor, 1) := by decide +kernel
theorem dJ9_floorMod_7cf53_7 : decode cJ9_floorMod_7cf53 7 = .ok (.ifCond .ge 11, 3) := by decide +kernel
theorem dJ9_floorMod_7cf53_10 : decode cJ9_floorMod_7cf53 10 = .ok (.iload_n 2, 1) := by decide +kernel
theorem dJ9_floorMod_7cf53_11 : decode cJ9_floorMod_7cf53 11 = .ok (.ifCond .eq 7, 3) := by decide +kernel
theorem dJ9_floorMod_7cf53_14 : decode cJ9_floorMod_7cf53 14 = .ok (.iload_n 2, 1) := by decide +kernel
theorem dJ9_floorMod_7cf53_15 : decode cJ9_floorMod_7cf53 15 = .ok (.iload_n 1, 1) := by decide +kernel
theorem dJ9_floorMod_7cf53_16 : decode cJ9_floorMod_7cf53 16 = .ok (.iadd, 1) := by decide +kernel
theorem dJ9_floorMod_7cf53_17 : decode cJ9_floorMod_7cf53 17 = .ok (.ireturn, 1) := by decide +kernel
theorem dJ9_floorMod_7cf53_18 : decode cJ9_floorMod_7cf53 18 = .ok (.iload_n 2, 1) := by decide +kernel
theorem dJ9_floorMod_7cf53_19 : decode cJ9_floorMod_7cf53 19 = .ok (.ireturn, 1) := by decide +kernel
theorem dJ9_max_7cf53_0 : decode cJ9_max_7cf53 0 = .ok (.iload_n 0, 1) := by decide +kernel
theorem dJ9_max_7cf53_1 : decode cJ9_max_7cf53 1 = .ok (.iload_n 1, 1) := by decide +kernel
theorem dJ9_max_7cf53_2 : decode cJ9_max_7cf53 2 = .ok (.if_icmp .lt 7, 3) := by decide +kernel
theorem dJ9_max_7cf53_5 : decode cJ9_max_7cf53 5 = .ok (.iload_n 0, 1) := by decide +kernel
theorem dJ9_max_7cf53_6 : decode cJ9_max_7cf53 6 = .ok (.goto 4, 3) := by decide +kernel
theorem dJ9_max_7cf53_9 : decode cJ9_max_7cf53 9 = .ok (.iload_n 1, 1) := by decide +kernel
theorem dJ9_max_7cf53_10 : decode cJ9_max_7cf53 10 = .ok (.ireturn, 1) := by decide +kernel
theorem dJ9_min_7cf53_0 : decode cJ9_min_7cf53 0 = .ok (.iload_n 0, 1) := by decide +kernel
theorem dJ9_min_7cf53_1 : decode cJ9_min_7cf53 1 = .ok (.iload_n 1, 1) := by decide +kernel
theorem dJ9_min_7cf53_2 : decode cJ9_min_7cf53 2 = .ok (.if_icmp .gt 7, 3) := by decide +kernel
theorem dJ9_min_7cf53_5 : decode cJ9_min_7cf53 5 = .ok (.iload_n 0, 1) := by decide +kernel
theorem dJ9_min_7cf53_6 : decode cJ9_min_7cf53 6 = .ok (.goto 4, 3) := by decide +kernel
theorem dJ9_min_7cf53_9 : decode cJ9_min_7cf53 9 = .ok (.iload_n 1, 1) := by decide +kernel
theorem dJ9_min_7cf53_10 : decode cJ9_min_7cf53 10 = .ok (.ireturn, 1) := by decide +kernel
theorem dJ7_fill_53178_0 : decode cJ7_fill_53178 0 = .ok (.iconst 0, 1) := by decide +kernel
theorem dJ7_fill_53178_1 : decode cJ7_fill_53178 1 = .ok (.istore_n 2, 1) := by decide +kernel
theorem dJ7_fill_53178_2 : decode cJ7_fill_53178 2 = .ok (.aload_n 0, 1) := by decide +kernel
theorem dJ7_fill_53178_3 : decode cJ7_fill_53178 3 = .ok (.arraylength, 1) := by decide +kernel
theorem dJ7_fill_53178_4 : decode cJ7_fill_53178 4 = .ok (.istore_n 3, 1) := by decide +kernel
theorem dJ7_fill_53178_5 : decode cJ7_fill_53178 5 = .ok (.iload_n 2, 1) := by decide +kernel
theorem dJ7_fill_53178_6 : decode cJ7_fill_53178 6 = .ok (.iload_n 3, 1) := by decide +kernel
theorem dJ7_fill_53178_7 : decode cJ7_fill_53178 7 = .ok (.if_icmp .ge 13, 3) := by decide +kernel
theorem dJ7_fill_53178_10 : decode cJ7_fill_53178 10 = .ok (.aload_n 0, 1) := by decide +kernel
theorem dJ7_fill_53178_11 : decode cJ7_fill_53178 11 = .ok (.iload_n 2, 1) := by decide +kernel
theorem dJ7_fill_53178_12 : decode cJ7_fill_53178 12 = .ok (.iload_n 1, 1) := by decide +kernel
theorem dJ7_fill_53178_13 : decode cJ7_fill_53178 13 = .ok (.iastore, 1) := by decide +kernel
theorem dJ7_fill_53178_14 : decode cJ7_fill_53178 14 = .ok (.iinc 2 1, 3) := by decide +kernel
theorem dJ7_fill_53178_17 : decode cJ7_fill_53178 17 = .ok (.goto (-12), 3) := by decide +kernel
theorem dJ7_fill_53178_20 : decode cJ7_fill_53178 20 = .ok (.return_, 1) := by decide +kernel
end
section
theorem dX10_init_0 : decode cX10_init 0 = .ok (.aload_n 0, 1) := by decide +kernel
theorem dX10_init_1 : decode cX10_init 1 = .ok (.invokespecial 1, 3) := by decide +kernel
theorem dX10_init_4 : decode cX10_init 4 = .ok (.aload_n 0, 1) := by decide +kernel
theorem dX10_init_5 : decode cX10_init 5 = .ok (.sipush 729, 3) := by decide +kernel
theorem dX10_init_8 : decode cX10_init 8 = .ok (.newarray .int, 2) := by decide +kernel
theorem dX10_init_10 : decode cX10_init 10 = .ok (.putfield 7, 3) := by decide +kernel
theorem dX10_init_13 : decode cX10_init 13 = .ok (.aload_n 0, 1) := by decide +kernel
theorem dX10_init_14 : decode cX10_init 14 = .ok (.sipush 4374, 3) := by decide +kernel
theorem dX10_init_17 : decode cX10_init 17 = .ok (.newarray .int, 2) := by decide +kernel
theorem dX10_init_19 : decode cX10_init 19 = .ok (.putfield 13, 3) := by decide +kernel
theorem dX10_init_22 : decode cX10_init 22 = .ok (.aload_n 0, 1) := by decide +kernel
theorem dX10_init_23 : decode cX10_init 23 = .ok (.sipush 729, 3) := by decide +kernel
theorem dX10_init_26 : decode cX10_init 26 = .ok (.newarray .int, 2) := by decide +kernel
theorem dX10_init_28 : decode cX10_init 28 = .ok (.putfield 16, 3) := by decide +kernel
theorem dX10_init_31 : decode cX10_init 31 = .ok (.aload_n 0, 1) := by decide +kernel
theorem dX10_init_32 : decode cX10_init 32 = .ok (.sipush 729, 3) := by decide +kernel
theorem dX10_init_35 : decode cX10_init 35 = .ok (.newarray .int, 2) := by decide +kernel
theorem dX10_init_37 : decode cX10_init 37 = .ok (.putfield 19, 3) := by decide +kernel
theorem dX10_init_40 : decode cX10_init 40 = .ok (.aload_n 0, 1) := by decide +kernel
theorem dX10_init_41 : decode cX10_init 41 = .ok (.bipush 120, 2) := by decide +kernel
theorem dX10_init_43 : decode cX10_init 43 = .ok (.newarray .int, 2) := by decide +kernel
theorem dX10_init_45 : decode cX10_init 45 = .ok (.putfield 22, 3) := by decide +kernel
theorem dX10_init_48 : decode cX10_init 48 = .ok (.aload_n 0, 1) := by decide +kernel
theorem dX10_init_49 : decode cX10_init 49 = .ok (.bipush 40, 2) := by decide +kernel
theorem dX10_init_51 : decode cX10_init 51 = .ok (.newarray .int, 2) := by decide +kernel
theorem dX10_init_53 : decode cX10_init 53 = .ok (.putfield 25, 3) := by decide +kernel
theorem dX10_init_56 : decode cX10_init 56 = .ok (.aload_n 0, 1) := by decide +kernel
theorem dX10_init_57 : decode cX10_init 57 = .ok (.bipush 40, 2) := by decide +kernel
theorem dX10_init_59 : decode cX10_init 59 = .ok (.newarray .int, 2) := by decide +kernel
theorem dX10_init_61 : decode cX10_init 61 = .ok (.putfield 28, 3) := by decide +kernel
theorem dX10_init_64 : decode cX10_init 64 = .ok (.aload_n 0, 1) := by decide +kernel
theorem dX10_init_65 : decode cX10_init 65 = .ok (.bipush 40, 2) := by decide +kernel
theorem dX10_init_67 : decode cX10_init 67 = .ok (.newarray .int, 2) := by decide +kernel
theorem dX10_init_69 : decode cX10_init 69 = .ok (.putfield 31, 3) := by decide +kernel
theorem dX10_init_72 : decode cX10_init 72 = .ok (.aload_n 0, 1) := by decide +kernel
theorem dX10_init_73 : decode cX10_init 73 = .ok (.iconst 5, 1) := by decide +kernel
theorem dX10_init_74 : decode cX10_init 74 = .ok (.newarray .int, 2) := by decide +kernel
theorem dX10_init_76 : decode cX10_init 76 = .ok (.putfield 34, 3) := by decide +kernel
theorem dX10_init_79 : decode cX10_init 79 = .ok (.aload_n 0, 1) := by decide +kernel
theorem dX10_init_80 : decode cX10_init 80 = .ok (.iconst 5, 1) := by decide +kernel
theorem dX10_init_81 : decode cX10_init 81 = .ok (.newarray .int, 2) := by decide +kernel
theorem dX10_init_83 : decode cX10_init 83 = .ok (.putfield 37, 3) := by decide +kernel
theorem dX10_init_86 : decode cX10_init 86 = .ok (.aload_n 0, 1) := by decide +kernel
theorem dX10_init_87 : decode cX10_init 87 = .ok (.bipush 8, 2) := by decide +kernel
theorem dX10_init_89 : decode cX10_init 89 = .ok (.newarray .int, 2) := by decide +kernel
theorem dX10_init_91 : decode cX10_init 91 = .ok (.putfield 40, 3) := by decide +kernel
theorem dX10_init_94 : decode cX10_init 94 = .ok (.aload_n 0, 1) := by decide +kernel
theorem dX10_init_95 : decode cX10_init 95 = .ok (.bipush 64, 2) := by decide +kernel
theorem dX10_init_97 : decode cX10_init 97 = .ok (.newarray .int, 2) := by decide +kernel
theorem dX10_init_99 : decode cX10_init 99 = .ok (.putfield 43, 3) := by decide +kernel
theorem dX10_init_102 : decode cX10_init 102 = .ok (.aload_n 0, 1) := by decide +kernel
theorem dX10_init_103 : decode cX10_init 103 = .ok (.getfield 7, 3) := by decide +kernel
theorem dX10_init_106 : decode cX10_init 106 = .ok (.iconst 0, 1) := by decide +kernel
theorem dX10_init_107 : decode cX10_init 107 = .ok (.bipush 20, 2) := by decide +kernel
theorem dX10_init_109 : decode cX10_init 109 = .ok (.iastore, 1) := by decide +kernel
theorem dX10_init_110 : decode cX10_init 110 = .ok (.aload_n 0, 1) := by decide +kernel
theorem dX10_init_111 : decode cX10_init 111 = .ok (.getfield 7, 3) := by decide +kernel
theorem dX10_init_114 : decode cX10_init 114 = .ok (.iconst 1, 1) := by decide +kernel
theorem dX10_init_115 : decode cX10_init 115 = .ok (.bipush 10, 2) := by decide +kernel
theorem dX10_init_117 : decode cX10_init 117 = .ok (.iastore, 1) := by decide +kernel
theorem dX10_init_118 : decode cX10_init 118 = .ok (.aload_n 0, 1) := by decide +kernel
theorem dX10_init_119 : decode cX10_init 119 = .ok (.getfield 7, 3) := by decide +kernel
theorem dX10_init_122 : decode cX10_init 122 = .ok (.iconst 3, 1) := by decide +kernel
theorem dX10_init_123 : decode cX10_init 123 = .ok (.bipush 100, 2) := by decide +kernel
theorem dX10_init_125 : decode cX10_init 125 = .ok (.iastore, 1) := by decide +kernel
theorem dX10_init_126 : decode cX10_init 126 = .ok (.return_, 1) := by decide +kernel
theorem dX10_in_0 : decode cX10_in 0 = .ok (.iload_n 0, 1) := by decide +kernel
theorem dX10_in_1 : decode cX10_in 1 = .ok (.iload_n 1, 1) := by decide +kernel
theorem dX10_in_2 : decode cX10_in 2 = .ok (.if_icmp .lt 12, 3) := by decide +kernel
theorem dX10_in_5 : decode cX10_in 5 = .ok (.iload_n 0, 1) := by decide +kernel
theorem dX10_in_6 : decode cX10_in 6 = .ok (.iload_n 2, 1) := by decide +kernel
theorem dX10_in_7 : decode cX10_in 7 = .ok (.if_icmp .gt 7, 3) := by decide +kernel
theorem dX10_in_10 : decode cX10_in 10 = .ok (.iconst 1, 1) := by decide +kernel
theorem dX10_in_11 : decode cX10_in 11 = .ok (.goto 4, 3) := by decide +kernel
theorem dX10_in_14 : decode cX10_in 14 = .ok (.iconst 0, 1) := by decide +kernel
theorem dX10_in_15 : decode cX10_in 15 = .ok (.ireturn, 1) := by decide +kernel
theorem dX10_copies_0 : decode cX10_copies 0 = .ok (.iconst 0, 1) := by decide +kernel
theorem dX10_copies_1 : decode cX10_copies 1 = .ok (.istore_n 2, 1) := by decide +kernel
theorem dX10_copies_2 : decode cX10_copies 2 = .ok (.iload_n 2, 1) := by decide +kernel
theorem dX10_copies_3 : decode cX10_copies 3 = .ok (.sipush 729, 3) := by decide +kernel
theorem dX10_copies_6 : decode cX10_copies 6 = .ok (.if_icmp .ge 15, 3) := by decide +kernel
theorem dX10_copies_9 : decode cX10_copies 9 = .ok (.aload_n 0, 1) := by decide +kernel
theorem dX10_copies_10 : decode cX10_copies 10 = .ok (.iload_n 2, 1) := by decide +kernel
theorem dX10_copies_11 : decode cX10_copies 11 = .ok (.aload_n 1, 1) := by decide +kernel
theorem dX10_copies_12 : decode cX10_copies 12 = .ok (.iload_n 2, 1) := by decide +kernel
theorem dX10_copies_13 : decode cX10_copies 13 = .ok (.iaload, 1) := by decide +kernel
theorem dX10_copies_14 : decode cX10_copies 14 = .ok (.iastore, 1) := by decide +kernel
theorem dX10_copies_15 : decode cX10_copies 15 = .ok (.iinc 2 1, 3) := by decide +kernel
theorem dX10_copies_18 : decode cX10_copies 18 = .ok (.goto (-16), 3) := by decide +kernel
theorem dX10_copies_21 : decode cX10_copies 21 = .ok (.return_, 1) := by decide +kernel
theorem dX10_hold_0 : decode cX10_hold 0 = .ok (.aload_n 0, 1) := by decide +kernel
theorem dX10_hold_1 : decode cX10_hold 1 = .ok (.getfield 16, 3) := by decide +kernel
theorem dX10_hold_4 : decode cX10_hold 4 = .ok (.aload_n 0, 1) := by decide +kernel
theorem dX10_hold_5 : decode cX10_hold 5 = .ok (.getfield 7, 3) := by decide +kernel
theorem dX10_hold_8 : decode cX10_hold 8 = .ok (.invokestatic 46, 3) := by decide +kernel
theorem dX10_hold_11 : decode cX10_hold 11 = .ok (.return_, 1) := by decide +kernel
theorem dX10_ends_0 : decode cX10_ends 0 = .ok (.aload_n 0, 1) := by decide +kernel
theorem dX10_ends_1 : decode cX10_ends 1 = .ok (.getfield 50, 3) := by decide +kernel
theorem dX10_ends_4 : decode cX10_ends 4 = .ok (.bipush 6, 2) := by decide +kernel
theorem dX10_ends_6 : decode cX10_ends 6 = .ok (.if_icmp .ne 44, 3) := by decide +kernel
theorem dX10_ends_9 : decode cX10_ends 9 = .ok (.iconst 0, 1) := by decide +kernel
theorem dX10_ends_10 : decode cX10_ends 10 = .ok (.istore_n 2, 1) := by decide +kernel
theorem dX10_ends_11 : decode cX10_ends 11 = .ok (.iload_n 2, 1) := by decide +kernel
theorem dX10_ends_12 : decode cX10_ends 12 = .ok (.sipush 3645, 3) := by decide +kernel
theorem dX10_ends_15 : decode cX10_ends 15 = .ok (.if_icmp .ge 25, 3) := by decide +kernel
theorem dX10_ends_18 : decode cX10_ends 18 = .ok (.aload_n 0, 1) := by decide +kernel
theorem dX10_ends_19 : decode cX10_ends 19 = .ok (.getfield 13, 3) := by decide +kernel
theorem dX10_ends_22 : decode cX10_ends 22 = .ok (.iload_n 2, 1) := by decide +kernel
theorem dX10_ends_23 : decode cX10_ends 23 = .ok (.aload_n 0, 1) := by decide +kernel
theorem dX10_ends_24 : decode cX10_ends 24 = .ok (.getfield 13, 3) := by decide +kernel
theorem dX10_ends_27 : decode cX10_ends 27 = .ok (.iload_n 2, 1) := by decide +kernel
theorem dX10_ends_28 : decode cX10_ends 28 = .ok (.sipush 729, 3) := by decide +kernel
theorem dX10_ends_31 : decode cX10_ends 31 = .ok (.iadd, 1) := by decide +kernel
theorem dX10_ends_32 : decode cX10_ends 32 = .ok (.iaload, 1) := by decide +kernel
theorem dX10_ends_33 : decode cX10_ends 33 = .ok (.iastore, 1) := by decide +kernel
theorem dX10_ends_34 : decode cX10_ends 34 = .ok (.iinc 2 1, 3) := by decide +kernel
theorem dX10_ends_37 : decode cX10_ends 37 = .ok (.goto (-26), 3) := by decide +kernel
theorem dX10_ends_40 : decode cX10_ends 40 = .ok (.aload_n 0, 1) := by decide +kernel
theorem dX10_ends_41 : decode cX10_ends 41 = .ok (.dup, 1) := by decide +kernel
theorem dX10_ends_42 : decode cX10_ends 42 = .ok (.getfield 50, 3) := by decide +kernel
theorem dX10_ends_45 : decode cX10_ends 45 = .ok (.iconst 1, 1) := by decide +kernel
theorem dX10_ends_46 : decode cX10_ends 46 = .ok (.isub, 1) := by decide +kernel
theorem dX10_ends_47 : decode cX10_ends 47 = .ok (.putfield 50, 3) := by decide +kernel
theorem dX10_ends_50 : decode cX10_ends 50 = .ok (.iconst 0, 1) := by decide +kernel
theorem dX10_ends_51 : decode cX10_ends 51 = .ok (.istore_n 2, 1) := by decide +kernel
theorem dX10_ends_52 : decode cX10_ends 52 = .ok (.iload_n 2, 1) := by decide +kernel
theorem dX10_ends_53 : decode cX10_ends 53 = .ok (.sipush 729, 3) := by decide +kernel
theorem dX10_ends_56 : decode cX10_ends 56 = .ok (.if_icmp .ge 30, 3) := by decide +kernel
theorem dX10_ends_59 : decode cX10_ends 59 = .ok (.aload_n 0, 1) := by decide +kernel
theorem dX10_ends_60 : decode cX10_ends 60 = .ok (.getfield 13, 3) := by decide +kernel
theorem dX10_ends_63 : decode cX10_ends 63 = .ok (.sipush 729, 3) := by decide +kernel
theorem dX10_ends_66 : decode cX10_ends 66 = .ok (.aload_n 0, 1) := by decide +kernel
theorem dX10_ends_67 : decode cX10_ends 67 = .ok (.getfield 50, 3) := by decide +kernel
theorem dX10_ends_70 : decode cX10_ends 70 = .ok (.imul, 1) := by decide +kernel
theorem dX10_ends_71 : decode cX10_ends 71 = .ok (.iload_n 2, 1) := by decide +kernel
theorem dX10_ends_72 : decode cX10_ends 72 = .ok (.iadd, 1) := by decide +kernel
theorem dX10_ends_73 : decode cX10_ends 73 = .ok (.aload_n 0, 1) := by decide +kernel
theorem dX10_ends_74 : decode cX10_ends 74 = .ok (.getfield 16, 3) := by decide +kernel
theorem dX10_ends_77 : decode cX10_ends 77 = .ok (.iload_n 2, 1) := by decide +kernel
theorem dX10_ends_78 : decode cX10_ends 78 = .ok (.iaload, 1) := by decide +kernel
theorem dX10_ends_79 : decode cX10_ends 79 = .ok (.iastore, 1) := by decide +kernel
theorem dX10_ends_80 : decode cX10_ends 80 = .ok (.iinc 2 1, 3) := by decide +kernel
theorem dX10_ends_83 : decode cX10_ends 83 = .ok (.goto (-31), 3) := by decide +kernel
theorem dX10_ends_86 : decode cX10_ends 86 = .ok (.aload_n 0, 1) := by decide +kernel
theorem dX10_ends_87 : decode cX10_ends 87 = .ok (.dup, 1) := by decide +kernel
theorem dX10_ends_88 : decode cX10_ends 88 = .ok (.getfield 50, 3) := by decide +kernel
theorem dX10_ends_91 : decode cX10_ends 91 = .ok (.iconst 1, 1) := by decide +kernel
theorem dX10_ends_92 : decode cX10_ends 92 = .ok (.iadd, 1) := by decide +kernel
theorem dX10_ends_93 : decode cX10_ends 93 = .ok (.putfield 50, 3) := by decide +kernel
theorem dX10_ends_96 : decode cX10_ends 96 = .ok (.iload_n 1, 1) := by decide +kernel
theorem dX10_ends_97 : decode cX10_ends 97 = .ok (.ireturn, 1) := by decide +kernel
theorem dX10_isColumn_0 : decode cX10_isColumn 0 = .ok (.iload_n 1, 1) := by decide +kernel
theorem dX10_isColumn_1 : decode cX10_isColumn 1 = .ok (.ifCond .lt 17, 3) := by decide +kernel
theorem dX10_isColumn_4 : decode cX10_isColumn 4 = .ok (.iload_n 1, 1) := by decide +kernel
theorem dX10_isColumn_5 : decode cX10_isColumn 5 = .ok (.aload_n 0, 1) := by decide +kernel
theorem dX10_isColumn_6 : decode cX10_isColumn 6 = .ok (.getfield 7, 3) := by decide +kernel
theorem dX10_isColumn_9 : decode cX10_isColumn 9 = .ok (.iconst 0, 1) := by decide +kernel
theorem dX10_isColumn_10 : decode cX10_isColumn 10 = .ok (.iaload, 1) := by decide +kernel
theorem dX10_isColumn_11 : decode cX10_isColumn 11 = .ok (.if_icmp .ge 7, 3) := by decide +kernel
theorem dX10_isColumn_14 : decode cX10_isColumn 14 = .ok (.iconst 1, 1) := by decide +kernel
theorem dX10_isColumn_15 : decode cX10_isColumn 15 = .ok (.goto 4, 3) := by decide +kernel
theorem dX10_isColumn_18 : decode cX10_isColumn 18 = .ok (.iconst 0, 1) := by decide +kernel
theorem dX10_isColumn_19 : decode cX10_isColumn 19 = .ok (.ireturn, 1) := by decide +kernel
theorem dX10_isMessage_0 : decode cX10_isMessage 0 = .ok (.iload_n 1, 1) := by decide +kernel
theorem dX10_isMessage_1 : decode cX10_isMessage 1 = .ok (.ifCond .lt 17, 3) := by decide +kernel
theorem dX10_isMessage_4 : decode cX10_isMessage 4 = .ok (.iload_n 1, 1) := by decide +kernel
theorem dX10_isMessage_5 : decode cX10_isMessage 5 = .ok (.aload_n 0, 1) := by decide +kernel
theorem dX10_isMessage_6 : decode cX10_isMessage 6 = .ok (.getfield 7, 3) := by decide +kernel
theorem dX10_isMessage_9 : decode cX10_isMessage 9 = .ok (.iconst 4, 1) := by decide +kernel
theorem dX10_isMessage_10 : decode cX10_isMessage 10 = .ok (.iaload, 1) := by decide +kernel
theorem dX10_isMessage_11 : decode cX10_isMessage 11 = .ok (.if_icmp .ge 7, 3) := by decide +kernel
theorem dX10_isMessage_14 : decode cX10_isMessage 14 = .ok (.iconst 1, 1) := by decide +kernel
theorem dX10_isMessage_15 : decode cX10_isMessage 15 = .ok (.goto 4, 3) := by decide +kernel
theorem dX10_isMessage_18 : decode cX10_isMessage 18 = .ok (.iconst 0, 1) := by decide +kernel
theorem dX10_isMessage_19 : decode cX10_isMessage 19 = .ok (.ireturn, 1) := by decide +kernel
theorem dX10_bits_0 : decode cX10_bits 0 = .ok (.iconst 0, 1) := by decide +kernel
theorem dX10_bits_1 : decode cX10_bits 1 = .ok (.istore_n 1, 1) := by decide +kernel
theorem dX10_bits_2 : decode cX10_bits 2 = .ok (.iconst 0, 1) := by decide +kernel
theorem dX10_bits_3 : decode cX10_bits 3 = .ok (.istore_n 2, 1) := by decide +kernel
theorem dX10_bits_4 : decode cX10_bits 4 = .ok (.iload_n 2, 1) := by decide +kernel
theorem dX10_bits_5 : decode cX10_bits 5 = .ok (.bipush 8, 2) := by decide +kernel
theorem dX10_bits_7 : decode cX10_bits 7 = .ok (.if_icmp .ge 17, 3) := by decide +kernel
theorem dX10_bits_10 : decode cX10_bits 10 = .ok (.iload_n 1, 1) := by decide +kernel
theorem dX10_bits_11 : decode cX10_bits 11 = .ok (.iload_n 0, 1) := by decide +kernel
theorem dX10_bits_12 : decode cX10_bits 12 = .ok (.iload_n 2, 1) := by decide +kernel
theorem dX10_bits_13 : decode cX10_bits 13 = .ok (.ishr, 1) := by decide +kernel
theorem dX10_bits_14 : decode cX10_bits 14 = .ok (.iconst 1, 1) := by decide +kernel
theorem dX10_bits_15 : decode cX10_bits 15 = .ok (.iand, 1) := by decide +kernel
theorem dX10_bits_16 : decode cX10_bits 16 = .ok (.iadd, 1) := by decide +kernel
theorem dX10_bits_17 : decode cX10_bits 17 = .ok (.istore_n 1, 1) := by decide +kernel
theorem dX10_bits_18 : decode cX10_bits 18 = .ok (.iinc 2 1, 3) := by decide +kernel
theorem dX10_bits_21 : decode cX10_bits 21 = .ok (.goto (-17), 3) := by decide +kernel
theorem dX10_bits_24 : decode cX10_bits 24 = .ok (.iload_n 1, 1) := by decide +kernel
theorem dX10_bits_25 : decode cX10_bits 25 = .ok (.ireturn, 1) := by decide +kernel
theorem dX10_lengthOf_0 : decode cX10_lengthOf 0 = .ok (.aload_n 0, 1) := by decide +kernel
theorem dX10_lengthOf_1 : decode cX10_lengthOf 1 = .ok (.getfield 7, 3) := by decide +kernel
theorem dX10_lengthOf_4 : decode cX10_lengthOf 4 = .ok (.sipush 605, 3) := by decide +kernel
theorem dX10_lengthOf_7 : decode cX10_lengthOf 7 = .ok (.bipush 13, 2) := by decide +kernel
theorem dX10_lengthOf_9 : decode cX10_lengthOf 9 = .ok (.iload_n 1, 1) := by decide +kernel
theorem dX10_lengthOf_10 : decode cX10_lengthOf 10 = .ok (.imul, 1) := by decide +kernel
theorem dX10_lengthOf_11 : decode cX10_lengthOf 11 = .ok (.iadd, 1) := by decide +kernel
theorem dX10_lengthOf_12 : decode cX10_lengthOf 12 = .ok (.iaload, 1) := by decide +kernel
theorem dX10_lengthOf_13 : decode cX10_lengthOf 13 = .ok (.ireturn, 1) := by decide +kernel
theorem dX10_characterOf_0 : decode cX10_characterOf 0 = .ok (.aload_n 0, 1) := by decide +kernel
theorem dX10_characterOf_1 : decode cX10_characterOf 1 = .ok (.getfield 7, 3) := by decide +kernel
theorem dX10_characterOf_4 : decode cX10_characterOf 4 = .ok (.sipush 605, 3) := by decide +kernel
theorem dX10_characterOf_7 : decode cX10_characterOf 7 = .ok (.bipush 13, 2) := by decide +kernel
theorem dX10_characterOf_9 : decode cX10_characterOf 9 = .ok (.iload_n 1, 1) := by decide +kernel
theorem dX10_characterOf_10 : decode cX10_characterOf 10 = .ok (.imul, 1) := by decide +kernel
theorem dX10_characterOf_11 : decode cX10_characterOf 11 = .ok (.iadd, 1) := by decide +kernel
theorem dX10_characterOf_12 : decode cX10_characterOf 12 = .ok (.iconst 1, 1) := by decide +kernel
theorem dX10_characterOf_13 : decode cX10_characterOf 13 = .ok (.iadd, 1) := by decide +kernel
theorem dX10_characterOf_14 : decode cX10_characterOf 14 = .ok (.iload_n 2, 1) := by decide +kernel
theorem dX10_characterOf_15 : decode cX10_characterOf 15 = .ok (.iadd, 1) := by decide +kernel
theorem dX10_characterOf_16 : decode cX10_characterOf 16 = .ok (.iaload, 1) := by decide +kernel
theorem dX10_characterOf_17 : decode cX10_characterOf 17 = .ok (.ireturn, 1) := by decide +kernel
theorem dX10_wideOf_0 : decode cX10_wideOf 0 = .ok (.iload_n 1, 1) := by decide +kernel
theorem dX10_wideOf_1 : decode cX10_wideOf 1 = .ok (.bipush 26, 2) := by decide +kernel
theorem dX10_wideOf_3 : decode cX10_wideOf 3 = .ok (.if_icmp .ne 7, 3) := by decide +kernel
theorem dX10_wideOf_6 : decode cX10_wideOf 6 = .ok (.iconst 2, 1) := by decide +kernel
theorem dX10_wideOf_7 : decode cX10_wideOf 7 = .ok (.goto 16, 3) := by decide +kernel
theorem dX10_wideOf_10 : decode cX10_wideOf 10 = .ok (.aload_n 0, 1) := by decide +kernel
theorem dX10_wideOf_11 : decode cX10_wideOf 11 = .ok (.getfield 7, 3) := by decide +kernel
theorem dX10_wideOf_14 : decode cX10_wideOf 14 = .ok (.sipush 449, 3) := by decide +kernel
theorem dX10_wideOf_17 : decode cX10_wideOf 17 = .ok (.bipush 6, 2) := by decide +kernel
theorem dX10_wideOf_19 : decode cX10_wideOf 19 = .ok (.iload_n 1, 1) := by decide +kernel
theorem dX10_wideOf_20 : decode cX10_wideOf 20 = .ok (.imul, 1) := by decide +kernel
theorem dX10_wideOf_21 : decode cX10_wideOf 21 = .ok (.iadd, 1) := by decide +kernel
theorem dX10_wideOf_22 : decode cX10_wideOf 22 = .ok (.iaload, 1) := by decide +kernel
theorem dX10_wideOf_23 : decode cX10_wideOf 23 = .ok (.ireturn, 1) := by decide +kernel
theorem dX10_stripOf_0 : decode cX10_stripOf 0 = .ok (.aload_n 0, 1) := by decide +kernel
theorem dX10_stripOf_1 : decode cX10_stripOf 1 = .ok (.iload_n 1, 1) := by decide +kernel
theorem dX10_stripOf_2 : decode cX10_stripOf 2 = .ok (.invokevirtual 54, 3) := by decide +kernel
theorem dX10_stripOf_5 : decode cX10_stripOf 5 = .ok (.iconst 1, 1) := by decide +kernel
theorem dX10_stripOf_6 : decode cX10_stripOf 6 = .ok (.isub, 1) := by decide +kernel
theorem dX10_stripOf_7 : decode cX10_stripOf 7 = .ok (.istore_n 2, 1) := by decide +kernel
theorem dX10_stripOf_8 : decode cX10_stripOf 8 = .ok (.iconst 0, 1) := by decide +kernel
theorem dX10_stripOf_9 : decode cX10_stripOf 9 = .ok (.istore_n 3, 1) := by decide +kernel
theorem dX10_stripOf_10 : decode cX10_stripOf 10 = .ok (.iload_n 3, 1) := by decide +kernel
theorem dX10_stripOf_11 : decode cX10_stripOf 11 = .ok (.aload_n 0, 1) := by decide +kernel
theorem dX10_stripOf_12 : decode cX10_stripOf 12 = .ok (.iload_n 1, 1) := by decide +kernel
theorem dX10_stripOf_13 : decode cX10_stripOf 13 = .ok (.invokevirtual 54, 3) := by decide +kernel
theorem dX10_stripOf_16 : decode cX10_stripOf 16 = .ok (.if_icmp .ge 22, 3) := by decide +kernel
theorem dX10_stripOf_19 : decode cX10_stripOf 19 = .ok (.iload_n 2, 1) := by decide +kernel
theorem dX10_stripOf_20 : decode cX10_stripOf 20 = .ok (.aload_n 0, 1) := by decide +kernel
theorem dX10_stripOf_21 : decode cX10_stripOf 21 = .ok (.aload_n 0, 1) := by decide +kernel
theorem dX10_stripOf_22 : decode cX10_stripOf 22 = .ok (.iload_n 1, 1) := by decide +kernel
theorem dX10_stripOf_23 : decode cX10_stripOf 23 = .ok (.iload_n 3, 1) := by decide +kernel
theorem dX10_stripOf_24 : decode cX10_stripOf 24 = .ok (.invokevirtual 58, 3) := by decide +kernel
theorem dX10_stripOf_27 : decode cX10_stripOf 27 = .ok (.invokevirtual 62, 3) := by decide +kernel
theorem dX10_stripOf_30 : decode cX10_stripOf 30 = .ok (.iadd, 1) := by decide +kernel
theorem dX10_stripOf_31 : decode cX10_stripOf 31 = .ok (.istore_n 2, 1) := by decide +kernel
theorem dX10_stripOf_32 : decode cX10_stripOf 32 = .ok (.iinc 3 1, 3) := by decide +kernel
theorem dX10_stripOf_35 : decode cX10_stripOf 35 = .ok (.goto (-25), 3) := by decide +kernel
theorem dX10_stripOf_38 : decode cX10_stripOf 38 = .ok (.iload_n 2, 1) := by decide +kernel
theorem dX10_stripOf_39 : decode cX10_stripOf 39 = .ok (.ireturn, 1) := by decide +kernel
theorem dX10_lays_0 : decode cX10_lays 0 = .ok (.iconst 0, 1) := by decide +kernel
theorem dX10_lays_1 : decode cX10_lays 1 = .ok (.istore 4, 2) := by decide +kernel
theorem dX10_lays_3 : decode cX10_lays 3 = .ok (.iload 4, 2) := by decide +kernel
theorem dX10_lays_5 : decode cX10_lays 5 = .ok (.bipush 40, 2) := by decide +kernel
theorem dX10_lays_7 : decode cX10_lays 7 = .ok (.if_icmp .ge 14, 3) := by decide +kernel
theorem dX10_lays_10 : decode cX10_lays 10 = .ok (.aload_n 3, 1) := by decide +kernel
theorem dX10_lays_11 : decode cX10_lays 11 = .ok (.iload 4, 2) := by decide +kernel
theorem dX10_lays_13 : decode cX10_lays 13 = .ok (.iconst 0, 1) := by decide +kernel
theorem dX10_lays_14 : decode cX10_lays 14 = .ok (.iastore, 1) := by decide +kernel
theorem dX10_lays_15 : decode cX10_lays 15 = .ok (.iinc 4 1, 3) := by decide +kernel
theorem dX10_lays_18 : decode cX10_lays 18 = .ok (.goto (-15), 3) := by decide +kernel
theorem dX10_lays_21 : decode cX10_lays 21 = .ok (.aload_n 0, 1) := by decide +kernel
theorem dX10_lays_22 : decode cX10_lays 22 = .ok (.iload_n 1, 1) := by decide +kernel
theorem dX10_lays_23 : decode cX10_lays 23 = .ok (.invokevirtual 65, 3) := by decide +kernel
theorem dX10_lays_26 : decode cX10_lays 26 = .ok (.istore 4, 2) := by decide +kernel
theorem dX10_lays_28 : decode cX10_lays 28 = .ok (.iload 4, 2) := by decide +kernel
theorem dX10_lays_30 : decode cX10_lays 30 = .ok (.aload_n 0, 1) := by decide +kernel
theorem dX10_lays_31 : decode cX10_lays 31 = .ok (.getfield 7, 3) := by decide +kernel
theorem dX10_lays_34 : decode cX10_lays 34 = .ok (.iconst 0, 1) := by decide +kernel
theorem dX10_lays_35 : decode cX10_lays 35 = .ok (.iaload, 1) := by decide +kernel
theorem dX10_lays_36 : decode cX10_lays 36 = .ok (.if_icmp .gt 19, 3) := by decide +kernel
theorem dX10_lays_39 : decode cX10_lays 39 = .ok (.aload_n 0, 1) := by decide +kernel
theorem dX10_lays_40 : decode cX10_lays 40 = .ok (.getfield 7, 3) := by decide +kernel
theorem dX10_lays_43 : decode cX10_lays 43 = .ok (.iconst 0, 1) := by decide +kernel
theorem dX10_lays_44 : decode cX10_lays 44 = .ok (.iaload, 1) := by decide +kernel
theorem dX10_lays_45 : decode cX10_lays 45 = .ok (.iload 4, 2) := by decide +kernel
theorem dX10_lays_47 : decode cX10_lays 47 = .ok (.isub, 1) := by decide +kernel
theorem dX10_lays_48 : decode cX10_lays 48 = .ok (.iconst 2, 1) := by decide +kernel
theorem dX10_lays_49 : decode cX10_lays 49 = .ok (.idiv, 1) := by decide +kernel
theorem dX10_lays_50 : decode cX10_lays 50 = .ok (.iload_n 2, 1) := by decide +kernel
theorem dX10_lays_51 : decode cX10_lays 51 = .ok (.iadd, 1) := by decide +kernel
theorem dX10_lays_52 : decode cX10_lays 52 = .ok (.goto 4, 3) := by decide +kernel
theorem dX10_lays_55 : decode cX10_lays 55 = .ok (.iload_n 2, 1) := by decide +kernel
theorem dX10_lays_56 : decode cX10_lays 56 = .ok (.istore 5, 2) := by decide +kernel
theorem dX10_lays_58 : decode cX10_lays 58 = .ok (.iconst 0, 1) := by decide +kernel
theorem dX10_lays_59 : decode cX10_lays 59 = .ok (.istore 6, 2) := by decide +kernel
theorem dX10_lays_61 : decode cX10_lays 61 = .ok (.iload 6, 2) := by decide +kernel
theorem dX10_lays_63 : decode cX10_lays 63 = .ok (.aload_n 0, 1) := by decide +kernel
theorem dX10_lays_64 : decode cX10_lays 64 = .ok (.iload_n 1, 1) := by decide +kernel
theorem dX10_lays_65 : decode cX10_lays 65 = .ok (.invokevirtual 54, 3) := by decide +kernel
theorem dX10_lays_68 : decode cX10_lays 68 = .ok (.if_icmp .ge 87, 3) := by decide +kernel
theorem dX10_lays_71 : decode cX10_lays 71 = .ok (.aload_n 0, 1) := by decide +kernel
theorem dX10_lays_72 : decode cX10_lays 72 = .ok (.iload_n 1, 1) := by decide +kernel
theorem dX10_lays_73 : decode cX10_lays 73 = .ok (.iload 6, 2) := by decide +kernel
theorem dX10_lays_75 : decode cX10_lays 75 = .ok (.invokevirtual 58, 3) := by decide +kernel
theorem dX10_lays_78 : decode cX10_lays 78 = .ok (.istore 7, 2) := by decide +kernel
theorem dX10_lays_80 : decode cX10_lays 80 = .ok (.iconst 0, 1) := by decide +kernel
theorem dX10_lays_81 : decode cX10_lays 81 = .ok (.istore 8, 2) := by decide +kernel
theorem dX10_lays_83 : decode cX10_lays 83 = .ok (.iload 8, 2) := by decide +kernel
theorem dX10_lays_85 : decode cX10_lays 85 = .ok (.aload_n 0, 1) := by decide +kernel
theorem dX10_lays_86 : decode cX10_lays 86 = .ok (.iload 7, 2) := by decide +kernel
theorem dX10_lays_88 : decode cX10_lays 88 = .ok (.invokevirtual 62, 3) := by decide +kernel
theorem dX10_lays_91 : decode cX10_lays 91 = .ok (.if_icmp .ge 55, 3) := by decide +kernel
theorem dX10_lays_94 : decode cX10_lays 94 = .ok (.aload_n 0, 1) := by decide +kernel
theorem dX10_lays_95 : decode cX10_lays 95 = .ok (.iload 5, 2) := by decide +kernel
theorem dX10_lays_97 : decode cX10_lays 97 = .ok (.invokevirtual 68, 3) := by decide +kernel
theorem dX10_lays_100 : decode cX10_lays 100 = .ok (.ifCond .eq 37, 3) := by decide +kernel
theorem dX10_lays_103 : decode cX10_lays 103 = .ok (.aload_n 3, 1) := by decide +kernel
theorem dX10_lays_104 : decode cX10_lays 104 = .ok (.iload 5, 2) := by decide +kernel
theorem dX10_lays_106 : decode cX10_lays 106 = .ok (.iload 7, 2) := by decide +kernel
theorem dX10_lays_108 : decode cX10_lays 108 = .ok (.bipush 26, 2) := by decide +kernel
theorem dX10_lays_110 : decode cX10_lays 110 = .ok (.if_icmp .ne 7, 3) := by decide +kernel
theorem dX10_lays_113 : decode cX10_lays 113 = .ok (.iconst 0, 1) := by decide +kernel
theorem dX10_lays_114 : decode cX10_lays 114 = .ok (.goto 22, 3) := by decide +kernel
theorem dX10_lays_117 : decode cX10_lays 117 = .ok (.aload_n 0, 1) := by decide +kernel
theorem dX10_lays_118 : decode cX10_lays 118 = .ok (.getfield 7, 3) := by decide +kernel
theorem dX10_lays_121 : decode cX10_lays 121 = .ok (.sipush 449, 3) := by decide +kernel
theorem dX10_lays_124 : decode cX10_lays 124 = .ok (.bipush 6, 2) := by decide +kernel
theorem dX10_lays_126 : decode cX10_lays 126 = .ok (.iload 7, 2) := by decide +kernel
theorem dX10_lays_128 : decode cX10_lays 128 = .ok (.imul, 1) := by decide +kernel
theorem dX10_lays_129 : decode cX10_lays 129 = .ok (.iadd, 1) := by decide +kernel
theorem dX10_lays_130 : decode cX10_lays 130 = .ok (.iconst 1, 1) := by decide +kernel
theorem dX10_lays_131 : decode cX10_lays 131 = .ok (.iadd, 1) := by decide +kernel
theorem dX10_lays_132 : decode cX10_lays 132 = .ok (.iload 8, 2) := by decide +kernel
theorem dX10_lays_134 : decode cX10_lays 134 = .ok (.iadd, 1) := by decide +kernel
theorem dX10_lays_135 : decode cX10_lays 135 = .ok (.iaload, 1) := by decide +kernel
theorem dX10_lays_136 : decode cX10_lays 136 = .ok (.iastore, 1) := by decide +kernel
theorem dX10_lays_137 : decode cX10_lays 137 = .ok (.iinc 5 1, 3) := by decide +kernel
theorem dX10_lays_140 : decode cX10_lays 140 = .ok (.iinc 8 1, 3) := by decide +kernel
theorem dX10_lays_143 : decode cX10_lays 143 = .ok (.goto (-60), 3) := by decide +kernel
theorem dX10_lays_146 : decode cX10_lays 146 = .ok (.iinc 5 1, 3) := by decide +kernel
theorem dX10_lays_149 : decode cX10_lays 149 = .ok (.iinc 6 1, 3) := by decide +kernel
theorem dX10_lays_152 : decode cX10_lays 152 = .ok (.goto (-91), 3) := by decide +kernel
theorem dX10_lays_155 : decode cX10_lays 155 = .ok (.return_, 1) := by decide +kernel
theorem dX10_differs_0 : decode cX10_differs 0 = .ok (.iconst 0, 1) := by decide +kernel
theorem dX10_differs_1 : decode cX10_differs 1 = .ok (.istore 5, 2) := by decide +kernel
theorem dX10_differs_3 : decode cX10_differs 3 = .ok (.iconst 0, 1) := by decide +kernel
theorem dX10_differs_4 : decode cX10_differs 4 = .ok (.istore 6, 2) := by decide +kernel
theorem dX10_differs_6 : decode cX10_differs 6 = .ok (.iload 6, 2) := by decide +kernel
theorem dX10_differs_8 : decode cX10_differs 8 = .ok (.aload_n 0, 1) := by decide +kernel
theorem dX10_differs_9 : decode cX10_differs 9 = .ok (.getfield 7, 3) := by decide +kernel
theorem dX10_differs_12 : decode cX10_differs 12 = .ok (.iconst 0, 1) := by decide +kernel
theorem dX10_differs_13 : decode cX10_differs 13 = .ok (.iaload, 1) := by decide +kernel
theorem dX10_differs_14 : decode cX10_differs 14 = .ok (.if_icmp .ge 68, 3) := by decide +kernel
theorem dX10_differs_17 : decode cX10_differs 17 = .ok (.aload_n 1, 1) := by decide +kernel
theorem dX10_differs_18 : decode cX10_differs 18 = .ok (.iload_n 2, 1) := by decide +kernel
theorem dX10_differs_19 : decode cX10_differs 19 = .ok (.iload 6, 2) := by decide +kernel
theorem dX10_differs_21 : decode cX10_differs 21 = .ok (.iadd, 1) := by decide +kernel
theorem dX10_differs_22 : decode cX10_differs 22 = .ok (.iaload, 1) := by decide +kernel
theorem dX10_differs_23 : decode cX10_differs 23 = .ok (.aload_n 3, 1) := by decide +kernel
theorem dX10_differs_24 : decode cX10_differs 24 = .ok (.iload 6, 2) := by decide +kernel
theorem dX10_differs_26 : decode cX10_differs 26 = .ok (.iaload, 1) := by decide +kernel
theorem dX10_differs_27 : decode cX10_differs 27 = .ok (.ixor, 1) := by decide +kernel
theorem dX10_differs_28 : decode cX10_differs 28 = .ok (.istore 7, 2) := by decide +kernel
theorem dX10_differs_30 : decode cX10_differs 30 = .ok (.iload 5, 2) := by decide +kernel
theorem dX10_differs_32 : decode cX10_differs 32 = .ok (.iload 4, 2) := by decide +kernel
theorem dX10_differs_34 : decode cX10_differs 34 = .ok (.ifCond .eq 20, 3) := by decide +kernel
theorem dX10_differs_37 : decode cX10_differs 37 = .ok (.iload 7, 2) := by decide +kernel
theorem dX10_differs_39 : decode cX10_differs 39 = .ok (.aload_n 0, 1) := by decide +kernel
theorem dX10_differs_40 : decode cX10_differs 40 = .ok (.getfield 7, 3) := by decide +kernel
theorem dX10_differs_43 : decode cX10_differs 43 = .ok (.sipush 129, 3) := by decide +kernel
theorem dX10_differs_46 : decode cX10_differs 46 = .ok (.iload 6, 2) := by decide +kernel
theorem dX10_differs_48 : decode cX10_differs 48 = .ok (.iadd, 1) := by decide +kernel
theorem dX10_differs_49 : decode cX10_differs 49 = .ok (.iaload, 1) := by decide +kernel
theorem dX10_differs_50 : decode cX10_differs 50 = .ok (.iand, 1) := by decide +kernel
theorem dX10_differs_51 : decode cX10_differs 51 = .ok (.goto 19, 3) := by decide +kernel
theorem dX10_differs_54 : decode cX10_differs 54 = .ok (.iload 7, 2) := by decide +kernel
theorem dX10_differs_56 : decode cX10_differs 56 = .ok (.aload_n 0, 1) := by decide +kernel
theorem dX10_differs_57 : decode cX10_differs 57 = .ok (.getfield 7, 3) := by decide +kernel
theorem dX10_differs_60 : decode cX10_differs 60 = .ok (.sipush 129, 3) := by decide +kernel
theorem dX10_differs_63 : decode cX10_differs 63 = .ok (.iload 6, 2) := by decide +kernel
theorem dX10_differs_65 : decode cX10_differs 65 = .ok (.iadd, 1) := by decide +kernel
theorem dX10_differs_66 : decode cX10_differs 66 = .ok (.iaload, 1) := by decide +kernel
theorem dX10_differs_67 : decode cX10_differs 67 = .ok (.iconst (-1), 1) := by decide +kernel
theorem dX10_differs_68 : decode cX10_differs 68 = .ok (.ixor, 1) := by decide +kernel
theorem dX10_differs_69 : decode cX10_differs 69 = .ok (.iand, 1) := by decide +kernel
theorem dX10_differs_70 : decode cX10_differs 70 = .ok (.invokestatic 72, 3) := by decide +kernel
theorem dX10_differs_73 : decode cX10_differs 73 = .ok (.iadd, 1) := by decide +kernel
theorem dX10_differs_74 : decode cX10_differs 74 = .ok (.istore 5, 2) := by decide +kernel
theorem dX10_differs_76 : decode cX10_differs 76 = .ok (.iinc 6 1, 3) := by decide +kernel
theorem dX10_differs_79 : decode cX10_differs 79 = .ok (.goto (-73), 3) := by decide +kernel
theorem dX10_differs_82 : decode cX10_differs 82 = .ok (.iload 5, 2) := by decide +kernel
theorem dX10_differs_84 : decode cX10_differs 84 = .ok (.ireturn, 1) := by decide +kernel
theorem dX10_bestOf_0 : decode cX10_bestOf 0 = .ok (.iconst 0, 1) := by decide +kernel
theorem dX10_bestOf_1 : decode cX10_bestOf 1 = .ok (.istore_n 2, 1) := by decide +kernel
theorem dX10_bestOf_2 : decode cX10_bestOf 2 = .ok (.iconst 0, 1) := by decide +kernel
theorem dX10_bestOf_3 : decode cX10_bestOf 3 = .ok (.istore_n 3, 1) := by decide +kernel
theorem dX10_bestOf_4 : decode cX10_bestOf 4 = .ok (.iconst 0, 1) := by decide +kernel
theorem dX10_bestOf_5 : decode cX10_bestOf 5 = .ok (.istore 4, 2) := by decide +kernel
theorem dX10_bestOf_7 : decode cX10_bestOf 7 = .ok (.iconst 0, 1) := by decide +kernel
theorem dX10_bestOf_8 : decode cX10_bestOf 8 = .ok (.istore 5, 2) := by decide +kernel
theorem dX10_bestOf_10 : decode cX10_bestOf 10 = .ok (.iload 5, 2) := by decide +kernel
theorem dX10_bestOf_12 : decode cX10_bestOf 12 = .ok (.iconst 5, 1) := by decide +kernel
theorem dX10_bestOf_13 : decode cX10_bestOf 13 = .ok (.if_icmp .ge 112, 3) := by decide +kernel
theorem dX10_bestOf_16 : decode cX10_bestOf 16 = .ok (.iload 5, 2) := by decide +kernel
theorem dX10_bestOf_18 : decode cX10_bestOf 18 = .ok (.iconst 2, 1) := by decide +kernel
theorem dX10_bestOf_19 : decode cX10_bestOf 19 = .ok (.irem, 1) := by decide +kernel
theorem dX10_bestOf_20 : decode cX10_bestOf 20 = .ok (.iconst 1, 1) := by decide +kernel
theorem dX10_bestOf_21 : decode cX10_bestOf 21 = .ok (.if_icmp .ne 13, 3) := by decide +kernel
theorem dX10_bestOf_24 : decode cX10_bestOf 24 = .ok (.iload 5, 2) := by decide +kernel
theorem dX10_bestOf_26 : decode cX10_bestOf 26 = .ok (.iconst 1, 1) := by decide +kernel
theorem dX10_bestOf_27 : decode cX10_bestOf 27 = .ok (.iadd, 1) := by decide +kernel
theorem dX10_bestOf_28 : decode cX10_bestOf 28 = .ok (.ineg, 1) := by decide +kernel
theorem dX10_bestOf_29 : decode cX10_bestOf 29 = .ok (.iconst 2, 1) := by decide +kernel
theorem dX10_bestOf_30 : decode cX10_bestOf 30 = .ok (.idiv, 1) := by decide +kernel
theorem dX10_bestOf_31 : decode cX10_bestOf 31 = .ok (.goto 7, 3) := by decide +kernel
theorem dX10_bestOf_34 : decode cX10_bestOf 34 = .ok (.iload 5, 2) := by decide +kernel
theorem dX10_bestOf_36 : decode cX10_bestOf 36 = .ok (.iconst 2, 1) := by decide +kernel
theorem dX10_bestOf_37 : decode cX10_bestOf 37 = .ok (.idiv, 1) := by decide +kernel
theorem dX10_bestOf_38 : decode cX10_bestOf 38 = .ok (.istore 6, 2) := by decide +kernel
theorem dX10_bestOf_40 : decode cX10_bestOf 40 = .ok (.aload_n 0, 1) := by decide +kernel
theorem dX10_bestOf_41 : decode cX10_bestOf 41 = .ok (.iload_n 1, 1) := by decide +kernel
theorem dX10_bestOf_42 : decode cX10_bestOf 42 = .ok (.iload 6, 2) := by decide +kernel
theorem dX10_bestOf_44 : decode cX10_bestOf 44 = .ok (.aload_n 0, 1) := by decide +kernel
theorem dX10_bestOf_45 : decode cX10_bestOf 45 = .ok (.getfield 25, 3) := by decide +kernel
theorem dX10_bestOf_48 : decode cX10_bestOf 48 = .ok (.invokevirtual 75, 3) := by decide +kernel
theorem dX10_bestOf_51 : decode cX10_bestOf 51 = .ok (.aload_n 0, 1) := by decide +kernel
theorem dX10_bestOf_52 : decode cX10_bestOf 52 = .ok (.aload_n 0, 1) := by decide +kernel
theorem dX10_bestOf_53 : decode cX10_bestOf 53 = .ok (.getfield 7, 3) := by decide +kernel
theorem dX10_bestOf_56 : decode cX10_bestOf 56 = .ok (.bipush 9, 2) := by decide +kernel
theorem dX10_bestOf_58 : decode cX10_bestOf 58 = .ok (.aload_n 0, 1) := by decide +kernel
theorem dX10_bestOf_59 : decode cX10_bestOf 59 = .ok (.getfield 25, 3) := by decide +kernel
theorem dX10_bestOf_62 : decode cX10_bestOf 62 = .ok (.iconst 1, 1) := by decide +kernel
theorem dX10_bestOf_63 : decode cX10_bestOf 63 = .ok (.invokevirtual 79, 3) := by decide +kernel
theorem dX10_bestOf_66 : decode cX10_bestOf 66 = .ok (.istore 7, 2) := by decide +kernel
theorem dX10_bestOf_68 : decode cX10_bestOf 68 = .ok (.aload_n 0, 1) := by decide +kernel
theorem dX10_bestOf_69 : decode cX10_bestOf 69 = .ok (.aload_n 0, 1) := by decide +kernel
theorem dX10_bestOf_70 : decode cX10_bestOf 70 = .ok (.getfield 7, 3) := by decide +kernel
theorem dX10_bestOf_73 : decode cX10_bestOf 73 = .ok (.bipush 9, 2) := by decide +kernel
theorem dX10_bestOf_75 : decode cX10_bestOf 75 = .ok (.aload_n 0, 1) := by decide +kernel
theorem dX10_bestOf_76 : decode cX10_bestOf 76 = .ok (.getfield 25, 3) := by decide +kernel
theorem dX10_bestOf_79 : decode cX10_bestOf 79 = .ok (.iconst 0, 1) := by decide +kernel
theorem dX10_bestOf_80 : decode cX10_bestOf 80 = .ok (.invokevirtual 79, 3) := by decide +kernel
theorem dX10_bestOf_83 : decode cX10_bestOf 83 = .ok (.istore 8, 2) := by decide +kernel
theorem dX10_bestOf_85 : decode cX10_bestOf 85 = .ok (.iload 5, 2) := by decide +kernel
theorem dX10_bestOf_87 : decode cX10_bestOf 87 = .ok (.ifCond .eq 22, 3) := by decide +kernel
theorem dX10_bestOf_90 : decode cX10_bestOf 90 = .ok (.iload 7, 2) := by decide +kernel
theorem dX10_bestOf_92 : decode cX10_bestOf 92 = .ok (.iload_n 3, 1) := by decide +kernel
theorem dX10_bestOf_93 : decode cX10_bestOf 93 = .ok (.if_icmp .lt 16, 3) := by decide +kernel
theorem dX10_bestOf_96 : decode cX10_bestOf 96 = .ok (.iload 7, 2) := by decide +kernel
theorem dX10_bestOf_98 : decode cX10_bestOf 98 = .ok (.iload_n 3, 1) := by decide +kernel
theorem dX10_bestOf_99 : decode cX10_bestOf 99 = .ok (.if_icmp .ne 20, 3) := by decide +kernel
theorem dX10_bestOf_102 : decode cX10_bestOf 102 = .ok (.iload 8, 2) := by decide +kernel
theorem dX10_bestOf_104 : decode cX10_bestOf 104 = .ok (.iload 4, 2) := by decide +kernel
theorem dX10_bestOf_106 : decode cX10_bestOf 106 = .ok (.if_icmp .ge 13, 3) := by decide +kernel
theorem dX10_bestOf_109 : decode cX10_bestOf 109 = .ok (.iload 6, 2) := by decide +kernel
theorem dX10_bestOf_111 : decode cX10_bestOf 111 = .ok (.istore_n 2, 1) := by decide +kernel
theorem dX10_bestOf_112 : decode cX10_bestOf 112 = .ok (.iload 7, 2) := by decide +kernel
theorem dX10_bestOf_114 : decode cX10_bestOf 114 = .ok (.istore_n 3, 1) := by decide +kernel
theorem dX10_bestOf_115 : decode cX10_bestOf 115 = .ok (.iload 8, 2) := by decide +kernel
theorem dX10_bestOf_117 : decode cX10_bestOf 117 = .ok (.istore 4, 2) := by decide +kernel
theorem dX10_bestOf_119 : decode cX10_bestOf 119 = .ok (.iinc 5 1, 3) := by decide +kernel
theorem dX10_bestOf_122 : decode cX10_bestOf 122 = .ok (.goto (-112), 3) := by decide +kernel
theorem dX10_bestOf_125 : decode cX10_bestOf 125 = .ok (.iload_n 2, 1) := by decide +kernel
theorem dX10_bestOf_126 : decode cX10_bestOf 126 = .ok (.ireturn, 1) := by decide +kernel
theorem dX10_shiftFor_0 : decode cX10_shiftFor 0 = .ok (.iload_n 2, 1) := by decide +kernel
theorem dX10_shiftFor_1 : decode cX10_shiftFor 1 = .ok (.ifCond .ne 7, 3) := by decide +kernel
theorem dX10_shiftFor_4 : decode cX10_shiftFor 4 = .ok (.iconst 0, 1) := by decide +kernel
theorem dX10_shiftFor_5 : decode cX10_shiftFor 5 = .ok (.goto 8, 3) := by decide +kernel
theorem dX10_shiftFor_8 : decode cX10_shiftFor 8 = .ok (.aload_n 0, 1) := by decide +kernel
theorem dX10_shiftFor_9 : decode cX10_shiftFor 9 = .ok (.iload_n 1, 1) := by decide +kernel
theorem dX10_shiftFor_10 : decode cX10_shiftFor 10 = .ok (.invokevirtual 83, 3) := by decide +kernel
theorem dX10_shiftFor_13 : decode cX10_shiftFor 13 = .ok (.ireturn, 1) := by decide +kernel
theorem dX10_dueOf_0 : decode cX10_dueOf 0 = .ok (.aload_n 0, 1) := by decide +kernel
theorem dX10_dueOf_1 : decode cX10_dueOf 1 = .ok (.getfield 7, 3) := by decide +kernel
theorem dX10_dueOf_4 : decode cX10_dueOf 4 = .ok (.bipush 9, 2) := by decide +kernel
theorem dX10_dueOf_6 : decode cX10_dueOf 6 = .ok (.iload_n 1, 1) := by decide +kernel
theorem dX10_dueOf_7 : decode cX10_dueOf 7 = .ok (.iadd, 1) := by decide +kernel
theorem dX10_dueOf_8 : decode cX10_dueOf 8 = .ok (.iaload, 1) := by decide +kernel
theorem dX10_dueOf_9 : decode cX10_dueOf 9 = .ok (.aload_n 0, 1) := by decide +kernel
theorem dX10_dueOf_10 : decode cX10_dueOf 10 = .ok (.getfield 7, 3) := by decide +kernel
theorem dX10_dueOf_13 : decode cX10_dueOf 13 = .ok (.bipush 49, 2) := by decide +kernel
theorem dX10_dueOf_15 : decode cX10_dueOf 15 = .ok (.iload_n 1, 1) := by decide +kernel
theorem dX10_dueOf_16 : decode cX10_dueOf 16 = .ok (.iadd, 1) := by decide +kernel
theorem dX10_dueOf_17 : decode cX10_dueOf 17 = .ok (.iaload, 1) := by decide +kernel
theorem dX10_dueOf_18 : decode cX10_dueOf 18 = .ok (.ixor, 1) := by decide +kernel
theorem dX10_dueOf_19 : decode cX10_dueOf 19 = .ok (.aload_n 0, 1) := by decide +kernel
theorem dX10_dueOf_20 : decode cX10_dueOf 20 = .ok (.getfield 7, 3) := by decide +kernel
theorem dX10_dueOf_23 : decode cX10_dueOf 23 = .ok (.sipush 129, 3) := by decide +kernel
theorem dX10_dueOf_26 : decode cX10_dueOf 26 = .ok (.iload_n 1, 1) := by decide +kernel
theorem dX10_dueOf_27 : decode cX10_dueOf 27 = .ok (.iadd, 1) := by decide +kernel
theorem dX10_dueOf_28 : decode cX10_dueOf 28 = .ok (.iaload, 1) := by decide +kernel
theorem dX10_dueOf_29 : decode cX10_dueOf 29 = .ok (.iconst (-1), 1) := by decide +kernel
theorem dX10_dueOf_30 : decode cX10_dueOf 30 = .ok (.ixor, 1) := by decide +kernel
theorem dX10_dueOf_31 : decode cX10_dueOf 31 = .ok (.iand, 1) := by decide +kernel
theorem dX10_dueOf_32 : decode cX10_dueOf 32 = .ok (.ireturn, 1) := by decide +kernel
theorem dX10_dueMany_0 : decode cX10_dueMany 0 = .ok (.iconst 0, 1) := by decide +kernel
theorem dX10_dueMany_1 : decode cX10_dueMany 1 = .ok (.istore_n 1, 1) := by decide +kernel
theorem dX10_dueMany_2 : decode cX10_dueMany 2 = .ok (.iconst 0, 1) := by decide +kernel
theorem dX10_dueMany_3 : decode cX10_dueMany 3 = .ok (.istore_n 2, 1) := by decide +kernel
theorem dX10_dueMany_4 : decode cX10_dueMany 4 = .ok (.iload_n 2, 1) := by decide +kernel
theorem dX10_dueMany_5 : decode cX10_dueMany 5 = .ok (.aload_n 0, 1) := by decide +kernel
theorem dX10_dueMany_6 : decode cX10_dueMany 6 = .ok (.getfield 7, 3) := by decide +kernel
theorem dX10_dueMany_9 : decode cX10_dueMany 9 = .ok (.iconst 0, 1) := by decide +kernel
theorem dX10_dueMany_10 : decode cX10_dueMany 10 = .ok (.iaload, 1) := by decide +kernel
theorem dX10_dueMany_11 : decode cX10_dueMany 11 = .ok (.if_icmp .ge 20, 3) := by decide +kernel
theorem dX10_dueMany_14 : decode cX10_dueMany 14 = .ok (.iload_n 1, 1) := by decide +kernel
theorem dX10_dueMany_15 : decode cX10_dueMany 15 = .ok (.aload_n 0, 1) := by decide +kernel
theorem dX10_dueMany_16 : decode cX10_dueMany 16 = .ok (.iload_n 2, 1) := by decide +kernel
theorem dX10_dueMany_17 : decode cX10_dueMany 17 = .ok (.invokevirtual 86, 3) := by decide +kernel
theorem dX10_dueMany_20 : decode cX10_dueMany 20 = .ok (.invokestatic 72, 3) := by decide +kernel
theorem dX10_dueMany_23 : decode cX10_dueMany 23 = .ok (.iadd, 1) := by decide +kernel
theorem dX10_dueMany_24 : decode cX10_dueMany 24 = .ok (.istore_n 1, 1) := by decide +kernel
theorem dX10_dueMany_25 : decode cX10_dueMany 25 = .ok (.iinc 2 1, 3) := by decide +kernel
theorem dX10_dueMany_28 : decode cX10_dueMany 28 = .ok (.goto (-24), 3) := by decide +kernel
theorem dX10_dueMany_31 : decode cX10_dueMany 31 = .ok (.iload_n 1, 1) := by decide +kernel
theorem dX10_dueMany_32 : decode cX10_dueMany 32 = .ok (.ireturn, 1) := by decide +kernel
theorem dX10_nextColumn_0 : decode cX10_nextColumn 0 = .ok (.aload_n 0, 1) := by decide +kernel
theorem dX10_nextColumn_1 : decode cX10_nextColumn 1 = .ok (.getfield 7, 3) := by decide +kernel
theorem dX10_nextColumn_4 : decode cX10_nextColumn 4 = .ok (.iconst 2, 1) := by decide +kernel
theorem dX10_nextColumn_5 : decode cX10_nextColumn 5 = .ok (.iaload, 1) := by decide +kernel
theorem dX10_nextColumn_6 : decode cX10_nextColumn 6 = .ok (.iconst 2, 1) := by decide +kernel
theorem dX10_nextColumn_7 : decode cX10_nextColumn 7 = .ok (.if_icmp .ge 27, 3) := by decide +kernel
theorem dX10_nextColumn_10 : decode cX10_nextColumn 10 = .ok (.aload_n 0, 1) := by decide +kernel
theorem dX10_nextColumn_11 : decode cX10_nextColumn 11 = .ok (.getfield 7, 3) := by decide +kernel
theorem dX10_nextColumn_14 : decode cX10_nextColumn 14 = .ok (.iconst 2, 1) := by decide +kernel
theorem dX10_nextColumn_15 : decode cX10_nextColumn 15 = .ok (.iaload, 1) := by decide +kernel
theorem dX10_nextColumn_16 : decode cX10_nextColumn 16 = .ok (.ifCond .ne 7, 3) := by decide +kernel
theorem dX10_nextColumn_19 : decode cX10_nextColumn 19 = .ok (.iload_n 1, 1) := by decide +kernel
theorem dX10_nextColumn_20 : decode cX10_nextColumn 20 = .ok (.goto 13, 3) := by decide +kernel
theorem dX10_nextColumn_23 : decode cX10_nextColumn 23 = .ok (.aload_n 0, 1) := by decide +kernel
theorem dX10_nextColumn_24 : decode cX10_nextColumn 24 = .ok (.getfield 7, 3) := by decide +kernel
theorem dX10_nextColumn_27 : decode cX10_nextColumn 27 = .ok (.iconst 0, 1) := by decide +kernel
theorem dX10_nextColumn_28 : decode cX10_nextColumn 28 = .ok (.iaload, 1) := by decide +kernel
theorem dX10_nextColumn_29 : decode cX10_nextColumn 29 = .ok (.iconst 1, 1) := by decide +kernel
theorem dX10_nextColumn_30 : decode cX10_nextColumn 30 = .ok (.isub, 1) := by decide +kernel
theorem dX10_nextColumn_31 : decode cX10_nextColumn 31 = .ok (.iload_n 1, 1) := by decide +kernel
theorem dX10_nextColumn_32 : decode cX10_nextColumn 32 = .ok (.isub, 1) := by decide +kernel
theorem dX10_nextColumn_33 : decode cX10_nextColumn 33 = .ok (.ireturn, 1) := by decide +kernel
theorem dX10_nextColumn_34 : decode cX10_nextColumn 34 = .ok (.iconst 0, 1) := by decide +kernel
theorem dX10_nextColumn_35 : decode cX10_nextColumn 35 = .ok (.istore_n 2, 1) := by decide +kernel
theorem dX10_nextColumn_36 : decode cX10_nextColumn 36 = .ok (.iconst 1, 1) := by decide +kernel
theorem dX10_nextColumn_37 : decode cX10_nextColumn 37 = .ok (.istore_n 3, 1) := by decide +kernel
theorem dX10_nextColumn_38 : decode cX10_nextColumn 38 = .ok (.iload_n 3, 1) := by decide +kernel
theorem dX10_nextColumn_39 : decode cX10_nextColumn 39 = .ok (.aload_n 0, 1) := by decide +kernel
theorem dX10_nextColumn_40 : decode cX10_nextColumn 40 = .ok (.getfield 7, 3) := by decide +kernel
theorem dX10_nextColumn_43 : decode cX10_nextColumn 43 = .ok (.iconst 0, 1) := by decide +kernel
theorem dX10_nextColumn_44 : decode cX10_nextColumn 44 = .ok (.iaload, 1) := by decide +kernel
theorem dX10_nextColumn_45 : decode cX10_nextColumn 45 = .ok (.if_icmp .ge 30, 3) := by decide +kernel
theorem dX10_nextColumn_48 : decode cX10_nextColumn 48 = .ok (.aload_n 0, 1) := by decide +kernel
theorem dX10_nextColumn_49 : decode cX10_nextColumn 49 = .ok (.getfield 31, 3) := by decide +kernel
theorem dX10_nextColumn_52 : decode cX10_nextColumn 52 = .ok (.iload_n 3, 1) := by decide +kernel
theorem dX10_nextColumn_53 : decode cX10_nextColumn 53 = .ok (.iaload, 1) := by decide +kernel
theorem dX10_nextColumn_54 : decode cX10_nextColumn 54 = .ok (.aload_n 0, 1) := by decide +kernel
theorem dX10_nextColumn_55 : decode cX10_nextColumn 55 = .ok (.getfield 31, 3) := by decide +kernel
theorem dX10_nextColumn_58 : decode cX10_nextColumn 58 = .ok (.iload_n 2, 1) := by decide +kernel
theorem dX10_nextColumn_59 : decode cX10_nextColumn 59 = .ok (.iaload, 1) := by decide +kernel
theorem dX10_nextColumn_60 : decode cX10_nextColumn 60 = .ok (.if_icmp .le 7, 3) := by decide +kernel
theorem dX10_nextColumn_63 : decode cX10_nextColumn 63 = .ok (.iload_n 3, 1) := by decide +kernel
theorem dX10_nextColumn_64 : decode cX10_nextColumn 64 = .ok (.goto 4, 3) := by decide +kernel
theorem dX10_nextColumn_67 : decode cX10_nextColumn 67 = .ok (.iload_n 2, 1) := by decide +kernel
theorem dX10_nextColumn_68 : decode cX10_nextColumn 68 = .ok (.istore_n 2, 1) := by decide +kernel
theorem dX10_nextColumn_69 : decode cX10_nextColumn 69 = .ok (.iinc 3 1, 3) := by decide +kernel
theorem dX10_nextColumn_72 : decode cX10_nextColumn 72 = .ok (.goto (-34), 3) := by decide +kernel
theorem dX10_nextColumn_75 : decode cX10_nextColumn 75 = .ok (.iload_n 2, 1) := by decide +kernel
theorem dX10_nextColumn_76 : decode cX10_nextColumn 76 = .ok (.ireturn, 1) := by decide +kernel
theorem dX10_flipsAt_0 : decode cX10_flipsAt 0 = .ok (.sipush 169, 3) := by decide +kernel
theorem dX10_flipsAt_3 : decode cX10_flipsAt 3 = .ok (.bipush 7, 2) := by decide +kernel
theorem dX10_flipsAt_5 : decode cX10_flipsAt 5 = .ok (.iload_n 1, 1) := by decide +kernel
theorem dX10_flipsAt_6 : decode cX10_flipsAt 6 = .ok (.imul, 1) := by decide +kernel
theorem dX10_flipsAt_7 : decode cX10_flipsAt 7 = .ok (.iadd, 1) := by decide +kernel
theorem dX10_flipsAt_8 : decode cX10_flipsAt 8 = .ok (.iload_n 2, 1) := by decide +kernel
theorem dX10_flipsAt_9 : decode cX10_flipsAt 9 = .ok (.iadd, 1) := by decide +kernel
theorem dX10_flipsAt_10 : decode cX10_flipsAt 10 = .ok (.istore_n 3, 1) := by decide +kernel
theorem dX10_flipsAt_11 : decode cX10_flipsAt 11 = .ok (.aload_n 0, 1) := by decide +kernel
theorem dX10_flipsAt_12 : decode cX10_flipsAt 12 = .ok (.getfield 7, 3) := by decide +kernel
theorem dX10_flipsAt_15 : decode cX10_flipsAt 15 = .ok (.bipush 89, 2) := by decide +kernel
theorem dX10_flipsAt_17 : decode cX10_flipsAt 17 = .ok (.iload_n 1, 1) := by decide +kernel
theorem dX10_flipsAt_18 : decode cX10_flipsAt 18 = .ok (.iadd, 1) := by decide +kernel
theorem dX10_flipsAt_19 : decode cX10_flipsAt 19 = .ok (.iaload, 1) := by decide +kernel
theorem dX10_flipsAt_20 : decode cX10_flipsAt 20 = .ok (.iload_n 2, 1) := by decide +kernel
theorem dX10_flipsAt_21 : decode cX10_flipsAt 21 = .ok (.ishr, 1) := by decide +kernel
theorem dX10_flipsAt_22 : decode cX10_flipsAt 22 = .ok (.iconst 1, 1) := by decide +kernel
theorem dX10_flipsAt_23 : decode cX10_flipsAt 23 = .ok (.iand, 1) := by decide +kernel
theorem dX10_flipsAt_24 : decode cX10_flipsAt 24 = .ok (.iconst 1, 1) := by decide +kernel
theorem dX10_flipsAt_25 : decode cX10_flipsAt 25 = .ok (.if_icmp .ne 31, 3) := by decide +kernel
theorem dX10_flipsAt_28 : decode cX10_flipsAt 28 = .ok (.aload_n 0, 1) := by decide +kernel
theorem dX10_flipsAt_29 : decode cX10_flipsAt 29 = .ok (.getfield 7, 3) := by decide +kernel
theorem dX10_flipsAt_32 : decode cX10_flipsAt 32 = .ok (.sipush 129, 3) := by decide +kernel
theorem dX10_flipsAt_35 : decode cX10_flipsAt 35 = .ok (.iload_n 1, 1) := by decide +kernel
theorem dX10_flipsAt_36 : decode cX10_flipsAt 36 = .ok (.iadd, 1) := by decide +kernel
theorem dX10_flipsAt_37 : decode cX10_flipsAt 37 = .ok (.dup2, 1) := by decide +kernel
theorem dX10_flipsAt_38 : decode cX10_flipsAt 38 = .ok (.iaload, 1) := by decide +kernel
theorem dX10_flipsAt_39 : decode cX10_flipsAt 39 = .ok (.iconst 1, 1) := by decide +kernel
theorem dX10_flipsAt_40 : decode cX10_flipsAt 40 = .ok (.iload_n 2, 1) := by decide +kernel
theorem dX10_flipsAt_41 : decode cX10_flipsAt 41 = .ok (.ishl, 1) := by decide +kernel
theorem dX10_flipsAt_42 : decode cX10_flipsAt 42 = .ok (.ior, 1) := by decide +kernel
theorem dX10_flipsAt_43 : decode cX10_flipsAt 43 = .ok (.iastore, 1) := by decide +kernel
theorem dX10_flipsAt_44 : decode cX10_flipsAt 44 = .ok (.aload_n 0, 1) := by decide +kernel
theorem dX10_flipsAt_45 : decode cX10_flipsAt 45 = .ok (.getfield 7, 3) := by decide +kernel
theorem dX10_flipsAt_48 : decode cX10_flipsAt 48 = .ok (.bipush 6, 2) := by decide +kernel
theorem dX10_flipsAt_50 : decode cX10_flipsAt 50 = .ok (.dup2, 1) := by decide +kernel
theorem dX10_flipsAt_51 : decode cX10_flipsAt 51 = .ok (.iaload, 1) := by decide +kernel
theorem dX10_flipsAt_52 : decode cX10_flipsAt 52 = .ok (.iconst 1, 1) := by decide +kernel
theorem dX10_flipsAt_53 : decode cX10_flipsAt 53 = .ok (.iadd, 1) := by decide +kernel
theorem dX10_flipsAt_54 : decode cX10_flipsAt 54 = .ok (.iastore, 1) := by decide +kernel
theorem dX10_flipsAt_55 : decode cX10_flipsAt 55 = .ok (.return_, 1) := by decide +kernel
theorem dX10_flipsAt_56 : decode cX10_flipsAt 56 = .ok (.aload_n 0, 1) := by decide +kernel
theorem dX10_flipsAt_57 : decode cX10_flipsAt 57 = .ok (.getfield 7, 3) := by decide +kernel
theorem dX10_flipsAt_60 : decode cX10_flipsAt 60 = .ok (.bipush 9, 2) := by decide +kernel
theorem dX10_flipsAt_62 : decode cX10_flipsAt 62 = .ok (.iload_n 1, 1) := by decide +kernel
theorem dX10_flipsAt_63 : decode cX10_flipsAt 63 = .ok (.iadd, 1) := by decide +kernel
theorem dX10_flipsAt_64 : decode cX10_flipsAt 64 = .ok (.dup2, 1) := by decide +kernel
theorem dX10_flipsAt_65 : decode cX10_flipsAt 65 = .ok (.iaload, 1) := by decide +kernel
theorem dX10_flipsAt_66 : decode cX10_flipsAt 66 = .ok (.iconst 1, 1) := by decide +kernel
theorem dX10_flipsAt_67 : decode cX10_flipsAt 67 = .ok (.iload_n 2, 1) := by decide +kernel
theorem dX10_flipsAt_68 : decode cX10_flipsAt 68 = .ok (.ishl, 1) := by decide +kernel
theorem dX10_flipsAt_69 : decode cX10_flipsAt 69 = .ok (.ixor, 1) := by decide +kernel
theorem dX10_flipsAt_70 : decode cX10_flipsAt 70 = .ok (.iastore, 1) := by decide +kernel
theorem dX10_flipsAt_71 : decode cX10_flipsAt 71 = .ok (.aload_n 0, 1) := by decide +kernel
theorem dX10_flipsAt_72 : decode cX10_flipsAt 72 = .ok (.getfield 7, 3) := by decide +kernel
theorem dX10_flipsAt_75 : decode cX10_flipsAt 75 = .ok (.iload_n 3, 1) := by decide +kernel
theorem dX10_flipsAt_76 : decode cX10_flipsAt 76 = .ok (.dup2, 1) := by decide +kernel
theorem dX10_flipsAt_77 : decode cX10_flipsAt 77 = .ok (.iaload, 1) := by decide +kernel
theorem dX10_flipsAt_78 : decode cX10_flipsAt 78 = .ok (.iconst 1, 1) := by decide +kernel
theorem dX10_flipsAt_79 : decode cX10_flipsAt 79 = .ok (.iadd, 1) := by decide +kernel
theorem dX10_flipsAt_80 : decode cX10_flipsAt 80 = .ok (.iastore, 1) := by decide +kernel
theorem dX10_flipsAt_81 : decode cX10_flipsAt 81 = .ok (.aload_n 0, 1) := by decide +kernel
theorem dX10_flipsAt_82 : decode cX10_flipsAt 82 = .ok (.getfield 7, 3) := by decide +kernel
theorem dX10_flipsAt_85 : decode cX10_flipsAt 85 = .ok (.iconst 5, 1) := by decide +kernel
theorem dX10_flipsAt_86 : decode cX10_flipsAt 86 = .ok (.dup2, 1) := by decide +kernel
theorem dX10_flipsAt_87 : decode cX10_flipsAt 87 = .ok (.iaload, 1) := by decide +kernel
theorem dX10_flipsAt_88 : decode cX10_flipsAt 88 = .ok (.iconst 1, 1) := by decide +kernel
theorem dX10_flipsAt_89 : decode cX10_flipsAt 89 = .ok (.iadd, 1) := by decide +kernel
theorem dX10_flipsAt_90 : decode cX10_flipsAt 90 = .ok (.iastore, 1) := by decide +kernel
theorem dX10_flipsAt_91 : decode cX10_flipsAt 91 = .ok (.aload_n 0, 1) := by decide +kernel
theorem dX10_flipsAt_92 : decode cX10_flipsAt 92 = .ok (.getfield 7, 3) := by decide +kernel
theorem dX10_flipsAt_95 : decode cX10_flipsAt 95 = .ok (.bipush 89, 2) := by decide +kernel
theorem dX10_flipsAt_97 : decode cX10_flipsAt 97 = .ok (.iload_n 1, 1) := by decide +kernel
theorem dX10_flipsAt_98 : decode cX10_flipsAt 98 = .ok (.iadd, 1) := by decide +kernel
theorem dX10_flipsAt_99 : decode cX10_flipsAt 99 = .ok (.dup2, 1) := by decide +kernel
theorem dX10_flipsAt_100 : decode cX10_flipsAt 100 = .ok (.iaload, 1) := by decide +kernel
theorem dX10_flipsAt_101 : decode cX10_flipsAt 101 = .ok (.aload_n 0, 1) := by decide +kernel
theorem dX10_flipsAt_102 : decode cX10_flipsAt 102 = .ok (.getfield 7, 3) := by decide +kernel
theorem dX10_flipsAt_105 : decode cX10_flipsAt 105 = .ok (.iload_n 3, 1) := by decide +kernel
theorem dX10_flipsAt_106 : decode cX10_flipsAt 106 = .ok (.iaload, 1) := by decide +kernel
theorem dX10_flipsAt_107 : decode cX10_flipsAt 107 = .ok (.aload_n 0, 1) := by decide +kernel
theorem dX10_flipsAt_108 : decode cX10_flipsAt 108 = .ok (.getfield 7, 3) := by decide +kernel
theorem dX10_flipsAt_111 : decode cX10_flipsAt 111 = .ok (.iconst 3, 1) := by decide +kernel
theorem dX10_flipsAt_112 : decode cX10_flipsAt 112 = .ok (.iaload, 1) := by decide +kernel
theorem dX10_flipsAt_113 : decode cX10_flipsAt 113 = .ok (.if_icmp .lt 9, 3) := by decide +kernel
theorem dX10_flipsAt_116 : decode cX10_flipsAt 116 = .ok (.iconst 1, 1) := by decide +kernel
theorem dX10_flipsAt_117 : decode cX10_flipsAt 117 = .ok (.iload_n 2, 1) := by decide +kernel
theorem dX10_flipsAt_118 : decode cX10_flipsAt 118 = .ok (.ishl, 1) := by decide +kernel
theorem dX10_flipsAt_119 : decode cX10_flipsAt 119 = .ok (.goto 4, 3) := by decide +kernel
theorem dX10_flipsAt_122 : decode cX10_flipsAt 122 = .ok (.iconst 0, 1) := by decide +kernel
theorem dX10_flipsAt_123 : decode cX10_flipsAt 123 = .ok (.ior, 1) := by decide +kernel
theorem dX10_flipsAt_124 : decode cX10_flipsAt 124 = .ok (.iastore, 1) := by decide +kernel
theorem dX10_flipsAt_125 : decode cX10_flipsAt 125 = .ok (.return_, 1) := by decide +kernel
theorem dX10_second_0 : decode cX10_second 0 = .ok (.aload_n 0, 1) := by decide +kernel
theorem dX10_second_1 : decode cX10_second 1 = .ok (.getfield 7, 3) := by decide +kernel
theorem dX10_second_4 : decode cX10_second 4 = .ok (.iconst 1, 1) := by decide +kernel
theorem dX10_second_5 : decode cX10_second 5 = .ok (.iaload, 1) := by decide +kernel
theorem dX10_second_6 : decode cX10_second 6 = .ok (.istore_n 1, 1) := by decide +kernel
theorem dX10_second_7 : decode cX10_second 7 = .ok (.iconst 0, 1) := by decide +kernel
theorem dX10_second_8 : decode cX10_second 8 = .ok (.istore_n 2, 1) := by decide +kernel
theorem dX10_second_9 : decode cX10_second 9 = .ok (.iload_n 2, 1) := by decide +kernel
theorem dX10_second_10 : decode cX10_second 10 = .ok (.aload_n 0, 1) := by decide +kernel
theorem dX10_second_11 : decode cX10_second 11 = .ok (.getfield 7, 3) := by decide +kernel
theorem dX10_second_14 : decode cX10_second 14 = .ok (.iconst 0, 1) := by decide +kernel
theorem dX10_second_15 : decode cX10_second 15 = .ok (.iaload, 1) := by decide +kernel
theorem dX10_second_16 : decode cX10_second 16 = .ok (.if_icmp .ge 23, 3) := by decide +kernel
theorem dX10_second_19 : decode cX10_second 19 = .ok (.aload_n 0, 1) := by decide +kernel
theorem dX10_second_20 : decode cX10_second 20 = .ok (.getfield 31, 3) := by decide +kernel
theorem dX10_second_23 : decode cX10_second 23 = .ok (.iload_n 2, 1) := by decide +kernel
theorem dX10_second_24 : decode cX10_second 24 = .ok (.aload_n 0, 1) := by decide +kernel
theorem dX10_second_25 : decode cX10_second 25 = .ok (.iload_n 2, 1) := by decide +kernel
theorem dX10_second_26 : decode cX10_second 26 = .ok (.invokevirtual 86, 3) := by decide +kernel
theorem dX10_second_29 : decode cX10_second 29 = .ok (.invokestatic 72, 3) := by decide +kernel
theorem dX10_second_32 : decode cX10_second 32 = .ok (.iastore, 1) := by decide +kernel
theorem dX10_second_33 : decode cX10_second 33 = .ok (.iinc 2 1, 3) := by decide +kernel
theorem dX10_second_36 : decode cX10_second 36 = .ok (.goto (-27), 3) := by decide +kernel
theorem dX10_second_39 : decode cX10_second 39 = .ok (.iconst 0, 1) := by decide +kernel
theorem dX10_second_40 : decode cX10_second 40 = .ok (.istore_n 2, 1) := by decide +kernel
theorem dX10_second_41 : decode cX10_second 41 = .ok (.iload_n 2, 1) := by decide +kernel
theorem dX10_second_42 : decode cX10_second 42 = .ok (.aload_n 0, 1) := by decide +kernel
theorem dX10_second_43 : decode cX10_second 43 = .ok (.getfield 7, 3) := by decide +kernel
theorem dX10_second_46 : decode cX10_second 46 = .ok (.iconst 0, 1) := by decide +kernel
theorem dX10_second_47 : decode cX10_second 47 = .ok (.iaload, 1) := by decide +kernel
theorem dX10_second_48 : decode cX10_second 48 = .ok (.if_icmp .ge 101, 3) := by decide +kernel
theorem dX10_second_51 : decode cX10_second 51 = .ok (.iload_n 1, 1) := by decide +kernel
theorem dX10_second_52 : decode cX10_second 52 = .ok (.iconst 1, 1) := by decide +kernel
theorem dX10_second_53 : decode cX10_second 53 = .ok (.if_icmp .le 96, 3) := by decide +kernel
theorem dX10_second_56 : decode cX10_second 56 = .ok (.aload_n 0, 1) := by decide +kernel
theorem dX10_second_57 : decode cX10_second 57 = .ok (.iload_n 2, 1) := by decide +kernel
theorem dX10_second_58 : decode cX10_second 58 = .ok (.invokevirtual 89, 3) := by decide +kernel
theorem dX10_second_61 : decode cX10_second 61 = .ok (.istore_n 3, 1) := by decide +kernel
theorem dX10_second_62 : decode cX10_second 62 = .ok (.aload_n 0, 1) := by decide +kernel
theorem dX10_second_63 : decode cX10_second 63 = .ok (.getfield 31, 3) := by decide +kernel
theorem dX10_second_66 : decode cX10_second 66 = .ok (.iload_n 3, 1) := by decide +kernel
theorem dX10_second_67 : decode cX10_second 67 = .ok (.iaload, 1) := by decide +kernel
theorem dX10_second_68 : decode cX10_second 68 = .ok (.ifCond .le 11, 3) := by decide +kernel
theorem dX10_second_71 : decode cX10_second 71 = .ok (.aload_n 0, 1) := by decide +kernel
theorem dX10_second_72 : decode cX10_second 72 = .ok (.iload_n 3, 1) := by decide +kernel
theorem dX10_second_73 : decode cX10_second 73 = .ok (.invokevirtual 86, 3) := by decide +kernel
theorem dX10_second_76 : decode cX10_second 76 = .ok (.goto 4, 3) := by decide +kernel
theorem dX10_second_79 : decode cX10_second 79 = .ok (.iconst 0, 1) := by decide +kernel
theorem dX10_second_80 : decode cX10_second 80 = .ok (.istore 4, 2) := by decide +kernel
theorem dX10_second_82 : decode cX10_second 82 = .ok (.aload_n 0, 1) := by decide +kernel
theorem dX10_second_83 : decode cX10_second 83 = .ok (.getfield 31, 3) := by decide +kernel
theorem dX10_second_86 : decode cX10_second 86 = .ok (.iload_n 3, 1) := by decide +kernel
theorem dX10_second_87 : decode cX10_second 87 = .ok (.iconst (-1), 1) := by decide +kernel
theorem dX10_second_88 : decode cX10_second 88 = .ok (.iastore, 1) := by decide +kernel
theorem dX10_second_89 : decode cX10_second 89 = .ok (.iload_n 1, 1) := by decide +kernel
theorem dX10_second_90 : decode cX10_second 90 = .ok (.iload 4, 2) := by decide +kernel
theorem dX10_second_92 : decode cX10_second 92 = .ok (.ifCond .ne 7, 3) := by decide +kernel
theorem dX10_second_95 : decode cX10_second 95 = .ok (.iconst 0, 1) := by decide +kernel
theorem dX10_second_96 : decode cX10_second 96 = .ok (.goto 4, 3) := by decide +kernel
theorem dX10_second_99 : decode cX10_second 99 = .ok (.iconst 1, 1) := by decide +kernel
theorem dX10_second_100 : decode cX10_second 100 = .ok (.isub, 1) := by decide +kernel
theorem dX10_second_101 : decode cX10_second 101 = .ok (.istore_n 1, 1) := by decide +kernel
theorem dX10_second_102 : decode cX10_second 102 = .ok (.iconst 0, 1) := by decide +kernel
theorem dX10_second_103 : decode cX10_second 103 = .ok (.istore 5, 2) := by decide +kernel
theorem dX10_second_105 : decode cX10_second 105 = .ok (.iload 5, 2) := by decide +kernel
theorem dX10_second_107 : decode cX10_second 107 = .ok (.bipush 7, 2) := by decide +kernel
theorem dX10_second_109 : decode cX10_second 109 = .ok (.if_icmp .ge 34, 3) := by decide +kernel
theorem dX10_second_112 : decode cX10_second 112 = .ok (.iload_n 1, 1) := by decide +kernel
theorem dX10_second_113 : decode cX10_second 113 = .ok (.ifCond .le 30, 3) := by decide +kernel
theorem dX10_second_116 : decode cX10_second 116 = .ok (.iload 4, 2) := by decide +kernel
theorem dX10_second_118 : decode cX10_second 118 = .ok (.iload 5, 2) := by decide +kernel
theorem dX10_second_120 : decode cX10_second 120 = .ok (.ishr, 1) := by decide +kernel
theorem dX10_second_121 : decode cX10_second 121 = .ok (.iconst 1, 1) := by decide +kernel
theorem dX10_second_122 : decode cX10_second 122 = .ok (.iand, 1) := by decide +kernel
theorem dX10_second_123 : decode cX10_second 123 = .ok (.iconst 1, 1) := by decide +kernel
theorem dX10_second_124 : decode cX10_second 124 = .ok (.if_icmp .ne 13, 3) := by decide +kernel
theorem dX10_second_127 : decode cX10_second 127 = .ok (.aload_n 0, 1) := by decide +kernel
theorem dX10_second_128 : decode cX10_second 128 = .ok (.iload_n 3, 1) := by decide +kernel
theorem dX10_second_129 : decode cX10_second 129 = .ok (.iload 5, 2) := by decide +kernel
theorem dX10_second_131 : decode cX10_second 131 = .ok (.invokevirtual 92, 3) := by decide +kernel
theorem dX10_second_134 : decode cX10_second 134 = .ok (.iinc 1 (-1), 3) := by decide +kernel
theorem dX10_second_137 : decode cX10_second 137 = .ok (.iinc 5 1, 3) := by decide +kernel
theorem dX10_second_140 : decode cX10_second 140 = .ok (.goto (-35), 3) := by decide +kernel
theorem dX10_second_143 : decode cX10_second 143 = .ok (.iinc 2 1, 3) := by decide +kernel
theorem dX10_second_146 : decode cX10_second 146 = .ok (.goto (-105), 3) := by decide +kernel
theorem dX10_second_149 : decode cX10_second 149 = .ok (.bipush 19, 2) := by decide +kernel
theorem dX10_second_151 : decode cX10_second 151 = .ok (.istore_n 2, 1) := by decide +kernel
theorem dX10_second_152 : decode cX10_second 152 = .ok (.iload_n 2, 1) := by decide +kernel
theorem dX10_second_153 : decode cX10_second 153 = .ok (.ifCond .le 31, 3) := by decide +kernel
theorem dX10_second_156 : decode cX10_second 156 = .ok (.aload_n 0, 1) := by decide +kernel
theorem dX10_second_157 : decode cX10_second 157 = .ok (.getfield 7, 3) := by decide +kernel
theorem dX10_second_160 : decode cX10_second 160 = .ok (.sipush 709, 3) := by decide +kernel
theorem dX10_second_163 : decode cX10_second 163 = .ok (.iload_n 2, 1) := by decide +kernel
theorem dX10_second_164 : decode cX10_second 164 = .ok (.iadd, 1) := by decide +kernel
theorem dX10_second_165 : decode cX10_second 165 = .ok (.aload_n 0, 1) := by decide +kernel
theorem dX10_second_166 : decode cX10_second 166 = .ok (.getfield 7, 3) := by decide +kernel
theorem dX10_second_169 : decode cX10_second 169 = .ok (.sipush 709, 3) := by decide +kernel
theorem dX10_second_172 : decode cX10_second 172 = .ok (.iload_n 2, 1) := by decide +kernel
theorem dX10_second_173 : decode cX10_second 173 = .ok (.iadd, 1) := by decide +kernel
theorem dX10_second_174 : decode cX10_second 174 = .ok (.iconst 1, 1) := by decide +kernel
theorem dX10_second_175 : decode cX10_second 175 = .ok (.isub, 1) := by decide +kernel
theorem dX10_second_176 : decode cX10_second 176 = .ok (.iaload, 1) := by decide +kernel
theorem dX10_second_177 : decode cX10_second 177 = .ok (.iastore, 1) := by decide +kernel
theorem dX10_second_178 : decode cX10_second 178 = .ok (.iinc 2 (-1), 3) := by decide +kernel
theorem dX10_second_181 : decode cX10_second 181 = .ok (.goto (-29), 3) := by decide +kernel
theorem dX10_second_184 : decode cX10_second 184 = .ok (.aload_n 0, 1) := by decide +kernel
theorem dX10_second_185 : decode cX10_second 185 = .ok (.getfield 7, 3) := by decide +kernel
theorem dX10_second_188 : decode cX10_second 188 = .ok (.sipush 709, 3) := by decide +kernel
theorem dX10_second_191 : decode cX10_second 191 = .ok (.aload_n 0, 1) := by decide +kernel
theorem dX10_second_192 : decode cX10_second 192 = .ok (.getfield 7, 3) := by decide +kernel
theorem dX10_second_195 : decode cX10_second 195 = .ok (.iconst 1, 1) := by decide +kernel
theorem dX10_second_196 : decode cX10_second 196 = .ok (.iaload, 1) := by decide +kernel
theorem dX10_second_197 : decode cX10_second 197 = .ok (.iload_n 1, 1) := by decide +kernel
theorem dX10_second_198 : decode cX10_second 198 = .ok (.isub, 1) := by decide +kernel
theorem dX10_second_199 : decode cX10_second 199 = .ok (.iastore, 1) := by decide +kernel
theorem dX10_second_200 : decode cX10_second 200 = .ok (.aload_n 0, 1) := by decide +kernel
theorem dX10_second_201 : decode cX10_second 201 = .ok (.getfield 7, 3) := by decide +kernel
theorem dX10_second_204 : decode cX10_second 204 = .ok (.bipush 7, 2) := by decide +kernel
theorem dX10_second_206 : decode cX10_second 206 = .ok (.dup2, 1) := by decide +kernel
theorem dX10_second_207 : decode cX10_second 207 = .ok (.iaload, 1) := by decide +kernel
theorem dX10_second_208 : decode cX10_second 208 = .ok (.aload_n 0, 1) := by decide +kernel
theorem dX10_second_209 : decode cX10_second 209 = .ok (.getfield 7, 3) := by decide +kernel
theorem dX10_second_212 : decode cX10_second 212 = .ok (.iconst 1, 1) := by decide +kernel
theorem dX10_second_213 : decode cX10_second 213 = .ok (.iaload, 1) := by decide +kernel
theorem dX10_second_214 : decode cX10_second 214 = .ok (.iload_n 1, 1) := by decide +kernel
theorem dX10_second_215 : decode cX10_second 215 = .ok (.isub, 1) := by decide +kernel
theorem dX10_second_216 : decode cX10_second 216 = .ok (.iadd, 1) := by decide +kernel
theorem dX10_second_217 : decode cX10_second 217 = .ok (.iastore, 1) := by decide +kernel
theorem dX10_second_218 : decode cX10_second 218 = .ok (.aload_n 0, 1) := by decide +kernel
theorem dX10_second_219 : decode cX10_second 219 = .ok (.getfield 7, 3) := by decide +kernel
theorem dX10_second_222 : decode cX10_second 222 = .ok (.bipush 8, 2) := by decide +kernel
theorem dX10_second_224 : decode cX10_second 224 = .ok (.dup2, 1) := by decide +kernel
theorem dX10_second_225 : decode cX10_second 225 = .ok (.iaload, 1) := by decide +kernel
theorem dX10_second_226 : decode cX10_second 226 = .ok (.iconst 1, 1) := by decide +kernel
theorem dX10_second_227 : decode cX10_second 227 = .ok (.iadd, 1) := by decide +kernel
theorem dX10_second_228 : decode cX10_second 228 = .ok (.iastore, 1) := by decide +kernel
theorem dX10_second_229 : decode cX10_second 229 = .ok (.return_, 1) := by decide +kernel
theorem dX10_begin_0 : decode cX10_begin 0 = .ok (.iload_n 1, 1) := by decide +kernel
theorem dX10_begin_1 : decode cX10_begin 1 = .ok (.bipush 6, 2) := by decide +kernel
theorem dX10_begin_3 : decode cX10_begin 3 = .ok (.bipush 40, 2) := by decide +kernel
theorem dX10_begin_5 : decode cX10_begin 5 = .ok (.invokestatic 96, 3) := by decide +kernel
theorem dX10_begin_8 : decode cX10_begin 8 = .ok (.ifCond .ne 7, 3) := by decide +kernel
theorem dX10_begin_11 : decode cX10_begin 11 = .ok (.sipush (-1001), 3) := by decide +kernel
theorem dX10_begin_14 : decode cX10_begin 14 = .ok (.ireturn, 1) := by decide +kernel
theorem dX10_begin_15 : decode cX10_begin 15 = .ok (.aload_n 0, 1) := by decide +kernel
theorem dX10_begin_16 : decode cX10_begin 16 = .ok (.invokevirtual 100, 3) := by decide +kernel
theorem dX10_begin_19 : decode cX10_begin 19 = .ok (.aload_n 0, 1) := by decide +kernel
theorem dX10_begin_20 : decode cX10_begin 20 = .ok (.getfield 7, 3) := by decide +kernel
theorem dX10_begin_23 : decode cX10_begin 23 = .ok (.iconst 0, 1) := by decide +kernel
theorem dX10_begin_24 : decode cX10_begin 24 = .ok (.iaload, 1) := by decide +kernel
theorem dX10_begin_25 : decode cX10_begin 25 = .ok (.istore_n 2, 1) := by decide +kernel
theorem dX10_begin_26 : decode cX10_begin 26 = .ok (.aload_n 0, 1) := by decide +kernel
theorem dX10_begin_27 : decode cX10_begin 27 = .ok (.getfield 7, 3) := by decide +kernel
theorem dX10_begin_30 : decode cX10_begin 30 = .ok (.iconst 0, 1) := by decide +kernel
theorem dX10_begin_31 : decode cX10_begin 31 = .ok (.iload_n 1, 1) := by decide +kernel
theorem dX10_begin_32 : decode cX10_begin 32 = .ok (.iastore, 1) := by decide +kernel
theorem dX10_begin_33 : decode cX10_begin 33 = .ok (.iconst 5, 1) := by decide +kernel
theorem dX10_begin_34 : decode cX10_begin 34 = .ok (.istore_n 3, 1) := by decide +kernel
theorem dX10_begin_35 : decode cX10_begin 35 = .ok (.iload_n 3, 1) := by decide +kernel
theorem dX10_begin_36 : decode cX10_begin 36 = .ok (.sipush 449, 3) := by decide +kernel
theorem dX10_begin_39 : decode cX10_begin 39 = .ok (.if_icmp .ge 16, 3) := by decide +kernel
theorem dX10_begin_42 : decode cX10_begin 42 = .ok (.aload_n 0, 1) := by decide +kernel
theorem dX10_begin_43 : decode cX10_begin 43 = .ok (.getfield 7, 3) := by decide +kernel
theorem dX10_begin_46 : decode cX10_begin 46 = .ok (.iload_n 3, 1) := by decide +kernel
theorem dX10_begin_47 : decode cX10_begin 47 = .ok (.iconst 0, 1) := by decide +kernel
theorem dX10_begin_48 : decode cX10_begin 48 = .ok (.iastore, 1) := by decide +kernel
theorem dX10_begin_49 : decode cX10_begin 49 = .ok (.iinc 3 1, 3) := by decide +kernel
theorem dX10_begin_52 : decode cX10_begin 52 = .ok (.goto (-17), 3) := by decide +kernel
theorem dX10_begin_55 : decode cX10_begin 55 = .ok (.iconst 0, 1) := by decide +kernel
theorem dX10_begin_56 : decode cX10_begin 56 = .ok (.istore_n 3, 1) := by decide +kernel
theorem dX10_begin_57 : decode cX10_begin 57 = .ok (.iload_n 3, 1) := by decide +kernel
theorem dX10_begin_58 : decode cX10_begin 58 = .ok (.bipush 20, 2) := by decide +kernel
theorem dX10_begin_60 : decode cX10_begin 60 = .ok (.if_icmp .ge 20, 3) := by decide +kernel
theorem dX10_begin_63 : decode cX10_begin 63 = .ok (.aload_n 0, 1) := by decide +kernel
theorem dX10_begin_64 : decode cX10_begin 64 = .ok (.getfield 7, 3) := by decide +kernel
theorem dX10_begin_67 : decode cX10_begin 67 = .ok (.sipush 709, 3) := by decide +kernel
theorem dX10_begin_70 : decode cX10_begin 70 = .ok (.iload_n 3, 1) := by decide +kernel
theorem dX10_begin_71 : decode cX10_begin 71 = .ok (.iadd, 1) := by decide +kernel
theorem dX10_begin_72 : decode cX10_begin 72 = .ok (.iconst 0, 1) := by decide +kernel
theorem dX10_begin_73 : decode cX10_begin 73 = .ok (.iastore, 1) := by decide +kernel
theorem dX10_begin_74 : decode cX10_begin 74 = .ok (.iinc 3 1, 3) := by decide +kernel
theorem dX10_begin_77 : decode cX10_begin 77 = .ok (.goto (-20), 3) := by decide +kernel
theorem dX10_begin_80 : decode cX10_begin 80 = .ok (.aload_n 0, 1) := by decide +kernel
theorem dX10_begin_81 : decode cX10_begin 81 = .ok (.iload_n 2, 1) := by decide +kernel
theorem dX10_begin_82 : decode cX10_begin 82 = .ok (.invokevirtual 103, 3) := by decide +kernel
theorem dX10_begin_85 : decode cX10_begin 85 = .ok (.ireturn, 1) := by decide +kernel
theorem dX10_isNumber_0 : decode cX10_isNumber 0 = .ok (.iload_n 0, 1) := by decide +kernel
theorem dX10_isNumber_1 : decode cX10_isNumber 1 = .ok (.tableswitch 51 0 2 #[27, 35, 42], 27) := by decide +kernel
theorem dX10_isNumber_28 : decode cX10_isNumber 28 = .ok (.iload_n 1, 1) := by decide +kernel
theorem dX10_isNumber_29 : decode cX10_isNumber 29 = .ok (.iconst 2, 1) := by decide +kernel
theorem dX10_isNumber_30 : decode cX10_isNumber 30 = .ok (.bipush 50, 2) := by decide +kernel
theorem dX10_isNumber_32 : decode cX10_isNumber 32 = .ok (.invokestatic 96, 3) := by decide +kernel
theorem dX10_isNumber_35 : decode cX10_isNumber 35 = .ok (.ireturn, 1) := by decide +kernel
theorem dX10_isNumber_36 : decode cX10_isNumber 36 = .ok (.iload_n 1, 1) := by decide +kernel
theorem dX10_isNumber_37 : decode cX10_isNumber 37 = .ok (.iconst 0, 1) := by decide +kernel
theorem dX10_isNumber_38 : decode cX10_isNumber 38 = .ok (.iconst 2, 1) := by decide +kernel
theorem dX10_isNumber_39 : decode cX10_isNumber 39 = .ok (.invokestatic 96, 3) := by decide +kernel
theorem dX10_isNumber_42 : decode cX10_isNumber 42 = .ok (.ireturn, 1) := by decide +kernel
theorem dX10_isNumber_43 : decode cX10_isNumber 43 = .ok (.iload_n 1, 1) := by decide +kernel
theorem dX10_isNumber_44 : decode cX10_isNumber 44 = .ok (.iconst 1, 1) := by decide +kernel
theorem dX10_isNumber_45 : decode cX10_isNumber 45 = .ok (.sipush 200, 3) := by decide +kernel
theorem dX10_isNumber_48 : decode cX10_isNumber 48 = .ok (.invokestatic 96, 3) := by decide +kernel
theorem dX10_isNumber_51 : decode cX10_isNumber 51 = .ok (.ireturn, 1) := by decide +kernel
theorem dX10_isNumber_52 : decode cX10_isNumber 52 = .ok (.iconst 0, 1) := by decide +kernel
theorem dX10_isNumber_53 : decode cX10_isNumber 53 = .ok (.ireturn, 1) := by decide +kernel
theorem dX10_setNumber_0 : decode cX10_setNumber 0 = .ok (.iload_n 1, 1) := by decide +kernel
theorem dX10_setNumber_1 : decode cX10_setNumber 1 = .ok (.iload_n 2, 1) := by decide +kernel
theorem dX10_setNumber_2 : decode cX10_setNumber 2 = .ok (.invokestatic 106, 3) := by decide +kernel
theorem dX10_setNumber_5 : decode cX10_setNumber 5 = .ok (.ifCond .ne 7, 3) := by decide +kernel
theorem dX10_setNumber_8 : decode cX10_setNumber 8 = .ok (.sipush (-1001), 3) := by decide +kernel
theorem dX10_setNumber_11 : decode cX10_setNumber 11 = .ok (.ireturn, 1) := by decide +kernel
theorem dX10_setNumber_12 : decode cX10_setNumber 12 = .ok (.aload_n 0, 1) := by decide +kernel
theorem dX10_setNumber_13 : decode cX10_setNumber 13 = .ok (.invokevirtual 100, 3) := by decide +kernel
theorem dX10_setNumber_16 : decode cX10_setNumber 16 = .ok (.aload_n 0, 1) := by decide +kernel
theorem dX10_setNumber_17 : decode cX10_setNumber 17 = .ok (.getfield 7, 3) := by decide +kernel
theorem dX10_setNumber_20 : decode cX10_setNumber 20 = .ok (.iconst 1, 1) := by decide +kernel
theorem dX10_setNumber_21 : decode cX10_setNumber 21 = .ok (.iload_n 1, 1) := by decide +kernel
theorem dX10_setNumber_22 : decode cX10_setNumber 22 = .ok (.iadd, 1) := by decide +kernel
theorem dX10_setNumber_23 : decode cX10_setNumber 23 = .ok (.iaload, 1) := by decide +kernel
theorem dX10_setNumber_24 : decode cX10_setNumber 24 = .ok (.istore_n 3, 1) := by decide +kernel
theorem dX10_setNumber_25 : decode cX10_setNumber 25 = .ok (.aload_n 0, 1) := by decide +kernel
theorem dX10_setNumber_26 : decode cX10_setNumber 26 = .ok (.getfield 7, 3) := by decide +kernel
theorem dX10_setNumber_29 : decode cX10_setNumber 29 = .ok (.iconst 1, 1) := by decide +kernel
theorem dX10_setNumber_30 : decode cX10_setNumber 30 = .ok (.iload_n 1, 1) := by decide +kernel
theorem dX10_setNumber_31 : decode cX10_setNumber 31 = .ok (.iadd, 1) := by decide +kernel
theorem dX10_setNumber_32 : decode cX10_setNumber 32 = .ok (.iload_n 2, 1) := by decide +kernel
theorem dX10_setNumber_33 : decode cX10_setNumber 33 = .ok (.iastore, 1) := by decide +kernel
theorem dX10_setNumber_34 : decode cX10_setNumber 34 = .ok (.aload_n 0, 1) := by decide +kernel
theorem dX10_setNumber_35 : decode cX10_setNumber 35 = .ok (.iload_n 3, 1) := by decide +kernel
theorem dX10_setNumber_36 : decode cX10_setNumber 36 = .ok (.invokevirtual 103, 3) := by decide +kernel
theorem dX10_setNumber_39 : decode cX10_setNumber 39 = .ok (.ireturn, 1) := by decide +kernel
theorem dX10_setColumn_0 : decode cX10_setColumn 0 = .ok (.iload_n 1, 1) := by decide +kernel
theorem dX10_setColumn_1 : decode cX10_setColumn 1 = .ok (.iconst 0, 1) := by decide +kernel
theorem dX10_setColumn_2 : decode cX10_setColumn 2 = .ok (.bipush 25, 2) := by decide +kernel
theorem dX10_setColumn_4 : decode cX10_setColumn 4 = .ok (.invokestatic 96, 3) := by decide +kernel
theorem dX10_setColumn_7 : decode cX10_setColumn 7 = .ok (.ifCond .eq 39, 3) := by decide +kernel
theorem dX10_setColumn_10 : decode cX10_setColumn 10 = .ok (.iload_n 2, 1) := by decide +kernel
theorem dX10_setColumn_11 : decode cX10_setColumn 11 = .ok (.ifCond .lt 35, 3) := by decide +kernel
theorem dX10_setColumn_14 : decode cX10_setColumn 14 = .ok (.iload_n 2, 1) := by decide +kernel
theorem dX10_setColumn_15 : decode cX10_setColumn 15 = .ok (.iconst 4, 1) := by decide +kernel
theorem dX10_setColumn_16 : decode cX10_setColumn 16 = .ok (.if_icmp .gt 30, 3) := by decide +kernel
theorem dX10_setColumn_19 : decode cX10_setColumn 19 = .ok (.iload_n 2, 1) := by decide +kernel
theorem dX10_setColumn_20 : decode cX10_setColumn 20 = .ok (.aload_n 0, 1) := by decide +kernel
theorem dX10_setColumn_21 : decode cX10_setColumn 21 = .ok (.getfield 7, 3) := by decide +kernel
theorem dX10_setColumn_24 : decode cX10_setColumn 24 = .ok (.sipush 449, 3) := by decide +kernel
theorem dX10_setColumn_27 : decode cX10_setColumn 27 = .ok (.bipush 6, 2) := by decide +kernel
theorem dX10_setColumn_29 : decode cX10_setColumn 29 = .ok (.iload_n 1, 1) := by decide +kernel
theorem dX10_setColumn_30 : decode cX10_setColumn 30 = .ok (.imul, 1) := by decide +kernel
theorem dX10_setColumn_31 : decode cX10_setColumn 31 = .ok (.iadd, 1) := by decide +kernel
theorem dX10_setColumn_32 : decode cX10_setColumn 32 = .ok (.iaload, 1) := by decide +kernel
theorem dX10_setColumn_33 : decode cX10_setColumn 33 = .ok (.if_icmp .gt 13, 3) := by decide +kernel
theorem dX10_setColumn_36 : decode cX10_setColumn 36 = .ok (.iload_n 3, 1) := by decide +kernel
theorem dX10_setColumn_37 : decode cX10_setColumn 37 = .ok (.iconst 0, 1) := by decide +kernel
theorem dX10_setColumn_38 : decode cX10_setColumn 38 = .ok (.bipush 127, 2) := by decide +kernel
theorem dX10_setColumn_40 : decode cX10_setColumn 40 = .ok (.invokestatic 96, 3) := by decide +kernel
theorem dX10_setColumn_43 : decode cX10_setColumn 43 = .ok (.ifCond .ne 7, 3) := by decide +kernel
theorem dX10_setColumn_46 : decode cX10_setColumn 46 = .ok (.sipush (-1001), 3) := by decide +kernel
theorem dX10_setColumn_49 : decode cX10_setColumn 49 = .ok (.ireturn, 1) := by decide +kernel
theorem dX10_setColumn_50 : decode cX10_setColumn 50 = .ok (.aload_n 0, 1) := by decide +kernel
theorem dX10_setColumn_51 : decode cX10_setColumn 51 = .ok (.invokevirtual 100, 3) := by decide +kernel
theorem dX10_setColumn_54 : decode cX10_setColumn 54 = .ok (.sipush 449, 3) := by decide +kernel
theorem dX10_setColumn_57 : decode cX10_setColumn 57 = .ok (.bipush 6, 2) := by decide +kernel
theorem dX10_setColumn_59 : decode cX10_setColumn 59 = .ok (.iload_n 1, 1) := by decide +kernel
theorem dX10_setColumn_60 : decode cX10_setColumn 60 = .ok (.imul, 1) := by decide +kernel
theorem dX10_setColumn_61 : decode cX10_setColumn 61 = .ok (.iadd, 1) := by decide +kernel
theorem dX10_setColumn_62 : decode cX10_setColumn 62 = .ok (.istore 4, 2) := by decide +kernel
theorem dX10_setColumn_64 : decode cX10_setColumn 64 = .ok (.aload_n 0, 1) := by decide +kernel
theorem dX10_setColumn_65 : decode cX10_setColumn 65 = .ok (.getfield 7, 3) := by decide +kernel
theorem dX10_setColumn_68 : decode cX10_setColumn 68 = .ok (.iload 4, 2) := by decide +kernel
theorem dX10_setColumn_70 : decode cX10_setColumn 70 = .ok (.dup2, 1) := by decide +kernel
theorem dX10_setColumn_71 : decode cX10_setColumn 71 = .ok (.iaload, 1) := by decide +kernel
theorem dX10_setColumn_72 : decode cX10_setColumn 72 = .ok (.iload_n 2, 1) := by decide +kernel
theorem dX10_setColumn_73 : decode cX10_setColumn 73 = .ok (.aload_n 0, 1) := by decide +kernel
theorem dX10_setColumn_74 : decode cX10_setColumn 74 = .ok (.getfield 7, 3) := by decide +kernel
theorem dX10_setColumn_77 : decode cX10_setColumn 77 = .ok (.iload 4, 2) := by decide +kernel
theorem dX10_setColumn_79 : decode cX10_setColumn 79 = .ok (.iaload, 1) := by decide +kernel
theorem dX10_setColumn_80 : decode cX10_setColumn 80 = .ok (.if_icmp .ne 7, 3) := by decide +kernel
theorem dX10_setColumn_83 : decode cX10_setColumn 83 = .ok (.iconst 1, 1) := by decide +kernel
theorem dX10_setColumn_84 : decode cX10_setColumn 84 = .ok (.goto 4, 3) := by decide +kernel
theorem dX10_setColumn_87 : decode cX10_setColumn 87 = .ok (.iconst 0, 1) := by decide +kernel
theorem dX10_setColumn_88 : decode cX10_setColumn 88 = .ok (.iadd, 1) := by decide +kernel
theorem dX10_setColumn_89 : decode cX10_setColumn 89 = .ok (.iastore, 1) := by decide +kernel
theorem dX10_setColumn_90 : decode cX10_setColumn 90 = .ok (.aload_n 0, 1) := by decide +kernel
theorem dX10_setColumn_91 : decode cX10_setColumn 91 = .ok (.getfield 7, 3) := by decide +kernel
theorem dX10_setColumn_94 : decode cX10_setColumn 94 = .ok (.iload 4, 2) := by decide +kernel
theorem dX10_setColumn_96 : decode cX10_setColumn 96 = .ok (.iconst 1, 1) := by decide +kernel
theorem dX10_setColumn_97 : decode cX10_setColumn 97 = .ok (.iadd, 1) := by decide +kernel
theorem dX10_setColumn_98 : decode cX10_setColumn 98 = .ok (.iload_n 2, 1) := by decide +kernel
theorem dX10_setColumn_99 : decode cX10_setColumn 99 = .ok (.iadd, 1) := by decide +kernel
theorem dX10_setColumn_100 : decode cX10_setColumn 100 = .ok (.iload_n 3, 1) := by decide +kernel
theorem dX10_setColumn_101 : decode cX10_setColumn 101 = .ok (.iastore, 1) := by decide +kernel
theorem dX10_setColumn_102 : decode cX10_setColumn 102 = .ok (.aload_n 0, 1) := by decide +kernel
theorem dX10_setColumn_103 : decode cX10_setColumn 103 = .ok (.aload_n 0, 1) := by decide +kernel
theorem dX10_setColumn_104 : decode cX10_setColumn 104 = .ok (.getfield 7, 3) := by decide +kernel
theorem dX10_setColumn_107 : decode cX10_setColumn 107 = .ok (.iload 4, 2) := by decide +kernel
theorem dX10_setColumn_109 : decode cX10_setColumn 109 = .ok (.iaload, 1) := by decide +kernel
theorem dX10_setColumn_110 : decode cX10_setColumn 110 = .ok (.invokevirtual 103, 3) := by decide +kernel
theorem dX10_setColumn_113 : decode cX10_setColumn 113 = .ok (.ireturn, 1) := by decide +kernel
theorem dX10_addMessage_0 : decode cX10_addMessage 0 = .ok (.iload_n 1, 1) := by decide +kernel
theorem dX10_addMessage_1 : decode cX10_addMessage 1 = .ok (.iconst 0, 1) := by decide +kernel
theorem dX10_addMessage_2 : decode cX10_addMessage 2 = .ok (.bipush 26, 2) := by decide +kernel
theorem dX10_addMessage_4 : decode cX10_addMessage 4 = .ok (.invokestatic 96, 3) := by decide +kernel
theorem dX10_addMessage_7 : decode cX10_addMessage 7 = .ok (.ifCond .eq 13, 3) := by decide +kernel
theorem dX10_addMessage_10 : decode cX10_addMessage 10 = .ok (.iload_n 2, 1) := by decide +kernel
theorem dX10_addMessage_11 : decode cX10_addMessage 11 = .ok (.iconst (-1), 1) := by decide +kernel
theorem dX10_addMessage_12 : decode cX10_addMessage 12 = .ok (.bipush 26, 2) := by decide +kernel
theorem dX10_addMessage_14 : decode cX10_addMessage 14 = .ok (.invokestatic 96, 3) := by decide +kernel
theorem dX10_addMessage_17 : decode cX10_addMessage 17 = .ok (.ifCond .ne 7, 3) := by decide +kernel
theorem dX10_addMessage_20 : decode cX10_addMessage 20 = .ok (.sipush (-1001), 3) := by decide +kernel
theorem dX10_addMessage_23 : decode cX10_addMessage 23 = .ok (.ireturn, 1) := by decide +kernel
theorem dX10_addMessage_24 : decode cX10_addMessage 24 = .ok (.aload_n 0, 1) := by decide +kernel
theorem dX10_addMessage_25 : decode cX10_addMessage 25 = .ok (.getfield 7, 3) := by decide +kernel
theorem dX10_addMessage_28 : decode cX10_addMessage 28 = .ok (.iconst 4, 1) := by decide +kernel
theorem dX10_addMessage_29 : decode cX10_addMessage 29 = .ok (.iaload, 1) := by decide +kernel
theorem dX10_addMessage_30 : decode cX10_addMessage 30 = .ok (.bipush 8, 2) := by decide +kernel
theorem dX10_addMessage_32 : decode cX10_addMessage 32 = .ok (.if_icmp .ne 7, 3) := by decide +kernel
theorem dX10_addMessage_35 : decode cX10_addMessage 35 = .ok (.sipush (-1003), 3) := by decide +kernel
theorem dX10_addMessage_38 : decode cX10_addMessage 38 = .ok (.ireturn, 1) := by decide +kernel
theorem dX10_addMessage_39 : decode cX10_addMessage 39 = .ok (.aload_n 0, 1) := by decide +kernel
theorem dX10_addMessage_40 : decode cX10_addMessage 40 = .ok (.invokevirtual 100, 3) := by decide +kernel
theorem dX10_addMessage_43 : decode cX10_addMessage 43 = .ok (.sipush 605, 3) := by decide +kernel
theorem dX10_addMessage_46 : decode cX10_addMessage 46 = .ok (.bipush 13, 2) := by decide +kernel
theorem dX10_addMessage_48 : decode cX10_addMessage 48 = .ok (.aload_n 0, 1) := by decide +kernel
theorem dX10_addMessage_49 : decode cX10_addMessage 49 = .ok (.getfield 7, 3) := by decide +kernel
theorem dX10_addMessage_52 : decode cX10_addMessage 52 = .ok (.iconst 4, 1) := by decide +kernel
theorem dX10_addMessage_53 : decode cX10_addMessage 53 = .ok (.iaload, 1) := by decide +kernel
theorem dX10_addMessage_54 : decode cX10_addMessage 54 = .ok (.imul, 1) := by decide +kernel
theorem dX10_addMessage_55 : decode cX10_addMessage 55 = .ok (.iadd, 1) := by decide +kernel
theorem dX10_addMessage_56 : decode cX10_addMessage 56 = .ok (.istore_n 3, 1) := by decide +kernel
theorem dX10_addMessage_57 : decode cX10_addMessage 57 = .ok (.aload_n 0, 1) := by decide +kernel
theorem dX10_addMessage_58 : decode cX10_addMessage 58 = .ok (.getfield 7, 3) := by decide +kernel
theorem dX10_addMessage_61 : decode cX10_addMessage 61 = .ok (.iload_n 3, 1) := by decide +kernel
theorem dX10_addMessage_62 : decode cX10_addMessage 62 = .ok (.iload_n 2, 1) := by decide +kernel
theorem dX10_addMessage_63 : decode cX10_addMessage 63 = .ok (.ifCond .ge 7, 3) := by decide +kernel
theorem dX10_addMessage_66 : decode cX10_addMessage 66 = .ok (.iconst 1, 1) := by decide +kernel
theorem dX10_addMessage_67 : decode cX10_addMessage 67 = .ok (.goto 4, 3) := by decide +kernel
theorem dX10_addMessage_70 : decode cX10_addMessage 70 = .ok (.iconst 2, 1) := by decide +kernel
theorem dX10_addMessage_71 : decode cX10_addMessage 71 = .ok (.iastore, 1) := by decide +kernel
theorem dX10_addMessage_72 : decode cX10_addMessage 72 = .ok (.aload_n 0, 1) := by decide +kernel
theorem dX10_addMessage_73 : decode cX10_addMessage 73 = .ok (.getfield 7, 3) := by decide +kernel
theorem dX10_addMessage_76 : decode cX10_addMessage 76 = .ok (.iload_n 3, 1) := by decide +kernel
theorem dX10_addMessage_77 : decode cX10_addMessage 77 = .ok (.iconst 1, 1) := by decide +kernel
theorem dX10_addMessage_78 : decode cX10_addMessage 78 = .ok (.iadd, 1) := by decide +kernel
theorem dX10_addMessage_79 : decode cX10_addMessage 79 = .ok (.iload_n 1, 1) := by decide +kernel
theorem dX10_addMessage_80 : decode cX10_addMessage 80 = .ok (.iastore, 1) := by decide +kernel
theorem dX10_addMessage_81 : decode cX10_addMessage 81 = .ok (.aload_n 0, 1) := by decide +kernel
theorem dX10_addMessage_82 : decode cX10_addMessage 82 = .ok (.getfield 7, 3) := by decide +kernel
theorem dX10_addMessage_85 : decode cX10_addMessage 85 = .ok (.iload_n 3, 1) := by decide +kernel
theorem dX10_addMessage_86 : decode cX10_addMessage 86 = .ok (.iconst 2, 1) := by decide +kernel
theorem dX10_addMessage_87 : decode cX10_addMessage 87 = .ok (.iadd, 1) := by decide +kernel
theorem dX10_addMessage_88 : decode cX10_addMessage 88 = .ok (.iload_n 2, 1) := by decide +kernel
theorem dX10_addMessage_89 : decode cX10_addMessage 89 = .ok (.ifCond .ge 7, 3) := by decide +kernel
theorem dX10_addMessage_92 : decode cX10_addMessage 92 = .ok (.iconst 0, 1) := by decide +kernel
theorem dX10_addMessage_93 : decode cX10_addMessage 93 = .ok (.goto 4, 3) := by decide +kernel
theorem dX10_addMessage_96 : decode cX10_addMessage 96 = .ok (.iload_n 2, 1) := by decide +kernel
theorem dX10_addMessage_97 : decode cX10_addMessage 97 = .ok (.iastore, 1) := by decide +kernel
theorem dX10_addMessage_98 : decode cX10_addMessage 98 = .ok (.aload_n 0, 1) := by decide +kernel
theorem dX10_addMessage_99 : decode cX10_addMessage 99 = .ok (.getfield 7, 3) := by decide +kernel
theorem dX10_addMessage_102 : decode cX10_addMessage 102 = .ok (.iconst 4, 1) := by decide +kernel
theorem dX10_addMessage_103 : decode cX10_addMessage 103 = .ok (.dup2, 1) := by decide +kernel
theorem dX10_addMessage_104 : decode cX10_addMessage 104 = .ok (.iaload, 1) := by decide +kernel
theorem dX10_addMessage_105 : decode cX10_addMessage 105 = .ok (.iconst 1, 1) := by decide +kernel
theorem dX10_addMessage_106 : decode cX10_addMessage 106 = .ok (.iadd, 1) := by decide +kernel
theorem dX10_addMessage_107 : decode cX10_addMessage 107 = .ok (.iastore, 1) := by decide +kernel
theorem dX10_addMessage_108 : decode cX10_addMessage 108 = .ok (.aload_n 0, 1) := by decide +kernel
theorem dX10_addMessage_109 : decode cX10_addMessage 109 = .ok (.aload_n 0, 1) := by decide +kernel
theorem dX10_addMessage_110 : decode cX10_addMessage 110 = .ok (.getfield 7, 3) := by decide +kernel
theorem dX10_addMessage_113 : decode cX10_addMessage 113 = .ok (.iconst 4, 1) := by decide +kernel
theorem dX10_addMessage_114 : decode cX10_addMessage 114 = .ok (.iaload, 1) := by decide +kernel
theorem dX10_addMessage_115 : decode cX10_addMessage 115 = .ok (.iconst 1, 1) := by decide +kernel
theorem dX10_addMessage_116 : decode cX10_addMessage 116 = .ok (.isub, 1) := by decide +kernel
theorem dX10_addMessage_117 : decode cX10_addMessage 117 = .ok (.invokevirtual 103, 3) := by decide +kernel
theorem dX10_addMessage_120 : decode cX10_addMessage 120 = .ok (.ireturn, 1) := by decide +kernel
theorem dX10_removeMessage_0 : decode cX10_removeMessage 0 = .ok (.aload_n 0, 1) := by decide +kernel
theorem dX10_removeMessage_1 : decode cX10_removeMessage 1 = .ok (.iload_n 1, 1) := by decide +kernel
theorem dX10_removeMessage_2 : decode cX10_removeMessage 2 = .ok (.invokevirtual 110, 3) := by decide +kernel
theorem dX10_removeMessage_5 : decode cX10_removeMessage 5 = .ok (.ifCond .ne 7, 3) := by decide +kernel
theorem dX10_removeMessage_8 : decode cX10_removeMessage 8 = .ok (.sipush (-1001), 3) := by decide +kernel
theorem dX10_removeMessage_11 : decode cX10_removeMessage 11 = .ok (.ireturn, 1) := by decide +kernel
theorem dX10_removeMessage_12 : decode cX10_removeMessage 12 = .ok (.aload_n 0, 1) := by decide +kernel
theorem dX10_removeMessage_13 : decode cX10_removeMessage 13 = .ok (.invokevirtual 100, 3) := by decide +kernel
theorem dX10_removeMessage_16 : decode cX10_removeMessage 16 = .ok (.aload_n 0, 1) := by decide +kernel
theorem dX10_removeMessage_17 : decode cX10_removeMessage 17 = .ok (.getfield 7, 3) := by decide +kernel
theorem dX10_removeMessage_20 : decode cX10_removeMessage 20 = .ok (.iconst 4, 1) := by decide +kernel
theorem dX10_removeMessage_21 : decode cX10_removeMessage 21 = .ok (.dup2, 1) := by decide +kernel
theorem dX10_removeMessage_22 : decode cX10_removeMessage 22 = .ok (.iaload, 1) := by decide +kernel
theorem dX10_removeMessage_23 : decode cX10_removeMessage 23 = .ok (.iconst 1, 1) := by decide +kernel
theorem dX10_removeMessage_24 : decode cX10_removeMessage 24 = .ok (.isub, 1) := by decide +kernel
theorem dX10_removeMessage_25 : decode cX10_removeMessage 25 = .ok (.iastore, 1) := by decide +kernel
theorem dX10_removeMessage_26 : decode cX10_removeMessage 26 = .ok (.sipush 605, 3) := by decide +kernel
theorem dX10_removeMessage_29 : decode cX10_removeMessage 29 = .ok (.bipush 13, 2) := by decide +kernel
theorem dX10_removeMessage_31 : decode cX10_removeMessage 31 = .ok (.iload_n 1, 1) := by decide +kernel
theorem dX10_removeMessage_32 : decode cX10_removeMessage 32 = .ok (.imul, 1) := by decide +kernel
theorem dX10_removeMessage_33 : decode cX10_removeMessage 33 = .ok (.iadd, 1) := by decide +kernel
theorem dX10_removeMessage_34 : decode cX10_removeMessage 34 = .ok (.istore_n 2, 1) := by decide +kernel
theorem dX10_removeMessage_35 : decode cX10_removeMessage 35 = .ok (.iload_n 2, 1) := by decide +kernel
theorem dX10_removeMessage_36 : decode cX10_removeMessage 36 = .ok (.sipush 605, 3) := by decide +kernel
theorem dX10_removeMessage_39 : decode cX10_removeMessage 39 = .ok (.bipush 13, 2) := by decide +kernel
theorem dX10_removeMessage_41 : decode cX10_removeMessage 41 = .ok (.aload_n 0, 1) := by decide +kernel
theorem dX10_removeMessage_42 : decode cX10_removeMessage 42 = .ok (.getfield 7, 3) := by decide +kernel
theorem dX10_removeMessage_45 : decode cX10_removeMessage 45 = .ok (.iconst 4, 1) := by decide +kernel
theorem dX10_removeMessage_46 : decode cX10_removeMessage 46 = .ok (.iaload, 1) := by decide +kernel
theorem dX10_removeMessage_47 : decode cX10_removeMessage 47 = .ok (.imul, 1) := by decide +kernel
theorem dX10_removeMessage_48 : decode cX10_removeMessage 48 = .ok (.iadd, 1) := by decide +kernel
theorem dX10_removeMessage_49 : decode cX10_removeMessage 49 = .ok (.if_icmp .ge 24, 3) := by decide +kernel
theorem dX10_removeMessage_52 : decode cX10_removeMessage 52 = .ok (.aload_n 0, 1) := by decide +kernel
theorem dX10_removeMessage_53 : decode cX10_removeMessage 53 = .ok (.getfield 7, 3) := by decide +kernel
theorem dX10_removeMessage_56 : decode cX10_removeMessage 56 = .ok (.iload_n 2, 1) := by decide +kernel
theorem dX10_removeMessage_57 : decode cX10_removeMessage 57 = .ok (.aload_n 0, 1) := by decide +kernel
theorem dX10_removeMessage_58 : decode cX10_removeMessage 58 = .ok (.getfield 7, 3) := by decide +kernel
theorem dX10_removeMessage_61 : decode cX10_removeMessage 61 = .ok (.iload_n 2, 1) := by decide +kernel
theorem dX10_removeMessage_62 : decode cX10_removeMessage 62 = .ok (.bipush 13, 2) := by decide +kernel
theorem dX10_removeMessage_64 : decode cX10_removeMessage 64 = .ok (.iadd, 1) := by decide +kernel
theorem dX10_removeMessage_65 : decode cX10_removeMessage 65 = .ok (.iaload, 1) := by decide +kernel
theorem dX10_removeMessage_66 : decode cX10_removeMessage 66 = .ok (.iastore, 1) := by decide +kernel
theorem dX10_removeMessage_67 : decode cX10_removeMessage 67 = .ok (.iinc 2 1, 3) := by decide +kernel
theorem dX10_removeMessage_70 : decode cX10_removeMessage 70 = .ok (.goto (-35), 3) := by decide +kernel
theorem dX10_removeMessage_73 : decode cX10_removeMessage 73 = .ok (.aload_n 0, 1) := by decide +kernel
theorem dX10_removeMessage_74 : decode cX10_removeMessage 74 = .ok (.aload_n 0, 1) := by decide +kernel
theorem dX10_removeMessage_75 : decode cX10_removeMessage 75 = .ok (.getfield 7, 3) := by decide +kernel
theorem dX10_removeMessage_78 : decode cX10_removeMessage 78 = .ok (.iconst 4, 1) := by decide +kernel
theorem dX10_removeMessage_79 : decode cX10_removeMessage 79 = .ok (.iaload, 1) := by decide +kernel
theorem dX10_removeMessage_80 : decode cX10_removeMessage 80 = .ok (.invokevirtual 103, 3) := by decide +kernel
theorem dX10_removeMessage_83 : decode cX10_removeMessage 83 = .ok (.ireturn, 1) := by decide +kernel
theorem dX10_appendCharacter_0 : decode cX10_appendCharacter 0 = .ok (.iload_n 1, 1) := by decide +kernel
theorem dX10_appendCharacter_1 : decode cX10_appendCharacter 1 = .ok (.iconst 0, 1) := by decide +kernel
theorem dX10_appendCharacter_2 : decode cX10_appendCharacter 2 = .ok (.sipush 255, 3) := by decide +kernel
theorem dX10_appendCharacter_5 : decode cX10_appendCharacter 5 = .ok (.invokestatic 96, 3) := by decide +kernel
theorem dX10_appendCharacter_8 : decode cX10_appendCharacter 8 = .ok (.ifCond .ne 7, 3) := by decide +kernel
theorem dX10_appendCharacter_11 : decode cX10_appendCharacter 11 = .ok (.sipush (-1001), 3) := by decide +kernel
theorem dX10_appendCharacter_14 : decode cX10_appendCharacter 14 = .ok (.ireturn, 1) := by decide +kernel
theorem dX10_appendCharacter_15 : decode cX10_appendCharacter 15 = .ok (.aload_n 0, 1) := by decide +kernel
theorem dX10_appendCharacter_16 : decode cX10_appendCharacter 16 = .ok (.getfield 113, 3) := by decide +kernel
theorem dX10_appendCharacter_19 : decode cX10_appendCharacter 19 = .ok (.bipush 120, 2) := by decide +kernel
theorem dX10_appendCharacter_21 : decode cX10_appendCharacter 21 = .ok (.if_icmp .ne 7, 3) := by decide +kernel
theorem dX10_appendCharacter_24 : decode cX10_appendCharacter 24 = .ok (.sipush (-1003), 3) := by decide +kernel
theorem dX10_appendCharacter_27 : decode cX10_appendCharacter 27 = .ok (.ireturn, 1) := by decide +kernel
theorem dX10_appendCharacter_28 : decode cX10_appendCharacter 28 = .ok (.aload_n 0, 1) := by decide +kernel
theorem dX10_appendCharacter_29 : decode cX10_appendCharacter 29 = .ok (.getfield 22, 3) := by decide +kernel
theorem dX10_appendCharacter_32 : decode cX10_appendCharacter 32 = .ok (.aload_n 0, 1) := by decide +kernel
theorem dX10_appendCharacter_33 : decode cX10_appendCharacter 33 = .ok (.getfield 113, 3) := by decide +kernel
theorem dX10_appendCharacter_36 : decode cX10_appendCharacter 36 = .ok (.iload_n 1, 1) := by decide +kernel
theorem dX10_appendCharacter_37 : decode cX10_appendCharacter 37 = .ok (.iastore, 1) := by decide +kernel
theorem dX10_appendCharacter_38 : decode cX10_appendCharacter 38 = .ok (.aload_n 0, 1) := by decide +kernel
theorem dX10_appendCharacter_39 : decode cX10_appendCharacter 39 = .ok (.dup, 1) := by decide +kernel
theorem dX10_appendCharacter_40 : decode cX10_appendCharacter 40 = .ok (.getfield 113, 3) := by decide +kernel
theorem dX10_appendCharacter_43 : decode cX10_appendCharacter 43 = .ok (.iconst 1, 1) := by decide +kernel
theorem dX10_appendCharacter_44 : decode cX10_appendCharacter 44 = .ok (.iadd, 1) := by decide +kernel
theorem dX10_appendCharacter_45 : decode cX10_appendCharacter 45 = .ok (.putfield 113, 3) := by decide +kernel
theorem dX10_appendCharacter_48 : decode cX10_appendCharacter 48 = .ok (.aload_n 0, 1) := by decide +kernel
theorem dX10_appendCharacter_49 : decode cX10_appendCharacter 49 = .ok (.getfield 113, 3) := by decide +kernel
theorem dX10_appendCharacter_52 : decode cX10_appendCharacter 52 = .ok (.ireturn, 1) := by decide +kernel
theorem dX10_clearText_0 : decode cX10_clearText 0 = .ok (.aload_n 0, 1) := by decide +kernel
theorem dX10_clearText_1 : decode cX10_clearText 1 = .ok (.getfield 113, 3) := by decide +kernel
theorem dX10_clearText_4 : decode cX10_clearText 4 = .ok (.istore_n 1, 1) := by decide +kernel
theorem dX10_clearText_5 : decode cX10_clearText 5 = .ok (.aload_n 0, 1) := by decide +kernel
theorem dX10_clearText_6 : decode cX10_clearText 6 = .ok (.iconst 0, 1) := by decide +kernel
theorem dX10_clearText_7 : decode cX10_clearText 7 = .ok (.putfield 113, 3) := by decide +kernel
theorem dX10_clearText_10 : decode cX10_clearText 10 = .ok (.iload_n 1, 1) := by decide +kernel
theorem dX10_clearText_11 : decode cX10_clearText 11 = .ok (.ireturn, 1) := by decide +kernel
theorem dX10_here_0 : decode cX10_here 0 = .ok (.aload_n 0, 1) := by decide +kernel
theorem dX10_here_1 : decode cX10_here 1 = .ok (.getfield 116, 3) := by decide +kernel
theorem dX10_here_4 : decode cX10_here 4 = .ok (.aload_n 0, 1) := by decide +kernel
theorem dX10_here_5 : decode cX10_here 5 = .ok (.getfield 113, 3) := by decide +kernel
theorem dX10_here_8 : decode cX10_here 8 = .ok (.if_icmp .ge 15, 3) := by decide +kernel
theorem dX10_here_11 : decode cX10_here 11 = .ok (.aload_n 0, 1) := by decide +kernel
theorem dX10_here_12 : decode cX10_here 12 = .ok (.getfield 22, 3) := by decide +kernel
theorem dX10_here_15 : decode cX10_here 15 = .ok (.aload_n 0, 1) := by decide +kernel
theorem dX10_here_16 : decode cX10_here 16 = .ok (.getfield 116, 3) := by decide +kernel
theorem dX10_here_19 : decode cX10_here 19 = .ok (.iaload, 1) := by decide +kernel
theorem dX10_here_20 : decode cX10_here 20 = .ok (.goto 4, 3) := by decide +kernel
theorem dX10_here_23 : decode cX10_here 23 = .ok (.iconst (-1), 1) := by decide +kernel
theorem dX10_here_24 : decode cX10_here 24 = .ok (.ireturn, 1) := by decide +kernel
theorem dX10_skips_0 : decode cX10_skips 0 = .ok (.aload_n 0, 1) := by decide +kernel
theorem dX10_skips_1 : decode cX10_skips 1 = .ok (.invokevirtual 119, 3) := by decide +kernel
theorem dX10_skips_4 : decode cX10_skips 4 = .ok (.bipush 32, 2) := by decide +kernel
theorem dX10_skips_6 : decode cX10_skips 6 = .ok (.if_icmp .ne 16, 3) := by decide +kernel
theorem dX10_skips_9 : decode cX10_skips 9 = .ok (.aload_n 0, 1) := by decide +kernel
theorem dX10_skips_10 : decode cX10_skips 10 = .ok (.dup, 1) := by decide +kernel
theorem dX10_skips_11 : decode cX10_skips 11 = .ok (.getfield 116, 3) := by decide +kernel
theorem dX10_skips_14 : decode cX10_skips 14 = .ok (.iconst 1, 1) := by decide +kernel
theorem dX10_skips_15 : decode cX10_skips 15 = .ok (.iadd, 1) := by decide +kernel
theorem dX10_skips_16 : decode cX10_skips 16 = .ok (.putfield 116, 3) := by decide +kernel
theorem dX10_skips_19 : decode cX10_skips 19 = .ok (.goto (-19), 3) := by decide +kernel
theorem dX10_skips_22 : decode cX10_skips 22 = .ok (.return_, 1) := by decide +kernel
theorem dX10_digitOf_0 : decode cX10_digitOf 0 = .ok (.iload_n 0, 1) := by decide +kernel
theorem dX10_digitOf_1 : decode cX10_digitOf 1 = .ok (.bipush 48, 2) := by decide +kernel
theorem dX10_digitOf_3 : decode cX10_digitOf 3 = .ok (.bipush 57, 2) := by decide +kernel
theorem dX10_digitOf_5 : decode cX10_digitOf 5 = .ok (.invokestatic 96, 3) := by decide +kernel
theorem dX10_digitOf_8 : decode cX10_digitOf 8 = .ok (.ifCond .eq 10, 3) := by decide +kernel
theorem dX10_digitOf_11 : decode cX10_digitOf 11 = .ok (.iload_n 0, 1) := by decide +kernel
theorem dX10_digitOf_12 : decode cX10_digitOf 12 = .ok (.bipush 48, 2) := by decide +kernel
theorem dX10_digitOf_14 : decode cX10_digitOf 14 = .ok (.isub, 1) := by decide +kernel
theorem dX10_digitOf_15 : decode cX10_digitOf 15 = .ok (.goto 25, 3) := by decide +kernel
theorem dX10_digitOf_18 : decode cX10_digitOf 18 = .ok (.iload_n 0, 1) := by decide +kernel
theorem dX10_digitOf_19 : decode cX10_digitOf 19 = .ok (.bipush 97, 2) := by decide +kernel
theorem dX10_digitOf_21 : decode cX10_digitOf 21 = .ok (.bipush 102, 2) := by decide +kernel
theorem dX10_digitOf_23 : decode cX10_digitOf 23 = .ok (.invokestatic 96, 3) := by decide +kernel
theorem dX10_digitOf_26 : decode cX10_digitOf 26 = .ok (.ifCond .eq 13, 3) := by decide +kernel
theorem dX10_digitOf_29 : decode cX10_digitOf 29 = .ok (.iload_n 0, 1) := by decide +kernel
theorem dX10_digitOf_30 : decode cX10_digitOf 30 = .ok (.bipush 97, 2) := by decide +kernel
theorem dX10_digitOf_32 : decode cX10_digitOf 32 = .ok (.isub, 1) := by decide +kernel
theorem dX10_digitOf_33 : decode cX10_digitOf 33 = .ok (.bipush 10, 2) := by decide +kernel
theorem dX10_digitOf_35 : decode cX10_digitOf 35 = .ok (.iadd, 1) := by decide +kernel
theorem dX10_digitOf_36 : decode cX10_digitOf 36 = .ok (.goto 4, 3) := by decide +kernel
theorem dX10_digitOf_39 : decode cX10_digitOf 39 = .ok (.iconst (-1), 1) := by decide +kernel
theorem dX10_digitOf_40 : decode cX10_digitOf 40 = .ok (.ireturn, 1) := by decide +kernel
theorem dX10_isLetter_0 : decode cX10_isLetter 0 = .ok (.sipush 449, 3) := by decide +kernel
theorem dX10_isLetter_3 : decode cX10_isLetter 3 = .ok (.bipush 6, 2) := by decide +kernel
theorem dX10_isLetter_5 : decode cX10_isLetter 5 = .ok (.aload_n 0, 1) := by decide +kernel
theorem dX10_isLetter_6 : decode cX10_isLetter 6 = .ok (.invokevirtual 119, 3) := by decide +kernel
theorem dX10_isLetter_9 : decode cX10_isLetter 9 = .ok (.bipush 97, 2) := by decide +kernel
theorem dX10_isLetter_11 : decode cX10_isLetter 11 = .ok (.isub, 1) := by decide +kernel
theorem dX10_isLetter_12 : decode cX10_isLetter 12 = .ok (.imul, 1) := by decide +kernel
theorem dX10_isLetter_13 : decode cX10_isLetter 13 = .ok (.iadd, 1) := by decide +kernel
theorem dX10_isLetter_14 : decode cX10_isLetter 14 = .ok (.istore_n 1, 1) := by decide +kernel
theorem dX10_isLetter_15 : decode cX10_isLetter 15 = .ok (.aload_n 0, 1) := by decide +kernel
theorem dX10_isLetter_16 : decode cX10_isLetter 16 = .ok (.dup, 1) := by decide +kernel
theorem dX10_isLetter_17 : decode cX10_isLetter 17 = .ok (.getfield 116, 3) := by decide +kernel
theorem dX10_isLetter_20 : decode cX10_isLetter 20 = .ok (.iconst 1, 1) := by decide +kernel
theorem dX10_isLetter_21 : decode cX10_isLetter 21 = .ok (.iadd, 1) := by decide +kernel
theorem dX10_isLetter_22 : decode cX10_isLetter 22 = .ok (.putfield 116, 3) := by decide +kernel
theorem dX10_isLetter_25 : decode cX10_isLetter 25 = .ok (.aload_n 0, 1) := by decide +kernel
theorem dX10_isLetter_26 : decode cX10_isLetter 26 = .ok (.invokevirtual 123, 3) := by decide +kernel
theorem dX10_isLetter_29 : decode cX10_isLetter 29 = .ok (.aload_n 0, 1) := by decide +kernel
theorem dX10_isLetter_30 : decode cX10_isLetter 30 = .ok (.invokevirtual 119, 3) := by decide +kernel
theorem dX10_isLetter_33 : decode cX10_isLetter 33 = .ok (.bipush 61, 2) := by decide +kernel
theorem dX10_isLetter_35 : decode cX10_isLetter 35 = .ok (.if_icmp .eq 5, 3) := by decide +kernel
theorem dX10_isLetter_38 : decode cX10_isLetter 38 = .ok (.iconst 0, 1) := by decide +kernel
theorem dX10_isLetter_39 : decode cX10_isLetter 39 = .ok (.ireturn, 1) := by decide +kernel
theorem dX10_isLetter_40 : decode cX10_isLetter 40 = .ok (.aload_n 0, 1) := by decide +kernel
theorem dX10_isLetter_41 : decode cX10_isLetter 41 = .ok (.dup, 1) := by decide +kernel
theorem dX10_isLetter_42 : decode cX10_isLetter 42 = .ok (.getfield 116, 3) := by decide +kernel
theorem dX10_isLetter_45 : decode cX10_isLetter 45 = .ok (.iconst 1, 1) := by decide +kernel
theorem dX10_isLetter_46 : decode cX10_isLetter 46 = .ok (.iadd, 1) := by decide +kernel
theorem dX10_isLetter_47 : decode cX10_isLetter 47 = .ok (.putfield 116, 3) := by decide +kernel
theorem dX10_isLetter_50 : decode cX10_isLetter 50 = .ok (.aload_n 0, 1) := by decide +kernel
theorem dX10_isLetter_51 : decode cX10_isLetter 51 = .ok (.invokevirtual 123, 3) := by decide +kernel
theorem dX10_isLetter_54 : decode cX10_isLetter 54 = .ok (.iconst 0, 1) := by decide +kernel
theorem dX10_isLetter_55 : decode cX10_isLetter 55 = .ok (.istore_n 2, 1) := by decide +kernel
theorem dX10_isLetter_56 : decode cX10_isLetter 56 = .ok (.iload_n 2, 1) := by decide +kernel
theorem dX10_isLetter_57 : decode cX10_isLetter 57 = .ok (.ifCond .eq 12, 3) := by decide +kernel
theorem dX10_isLetter_60 : decode cX10_isLetter 60 = .ok (.aload_n 0, 1) := by decide +kernel
theorem dX10_isLetter_61 : decode cX10_isLetter 61 = .ok (.invokevirtual 119, 3) := by decide +kernel
theorem dX10_isLetter_64 : decode cX10_isLetter 64 = .ok (.bipush 59, 2) := by decide +kernel
theorem dX10_isLetter_66 : decode cX10_isLetter 66 = .ok (.if_icmp .eq 91, 3) := by decide +kernel
theorem dX10_isLetter_69 : decode cX10_isLetter 69 = .ok (.aload_n 0, 1) := by decide +kernel
theorem dX10_isLetter_70 : decode cX10_isLetter 70 = .ok (.invokevirtual 119, 3) := by decide +kernel
theorem dX10_isLetter_73 : decode cX10_isLetter 73 = .ok (.invokestatic 126, 3) := by decide +kernel
theorem dX10_isLetter_76 : decode cX10_isLetter 76 = .ok (.istore_n 3, 1) := by decide +kernel
theorem dX10_isLetter_77 : decode cX10_isLetter 77 = .ok (.iload_n 2, 1) := by decide +kernel
theorem dX10_isLetter_78 : decode cX10_isLetter 78 = .ok (.iconst 5, 1) := by decide +kernel
theorem dX10_isLetter_79 : decode cX10_isLetter 79 = .ok (.if_icmp .eq 13, 3) := by decide +kernel
theorem dX10_isLetter_82 : decode cX10_isLetter 82 = .ok (.iload_n 3, 1) := by decide +kernel
theorem dX10_isLetter_83 : decode cX10_isLetter 83 = .ok (.iconst 0, 1) := by decide +kernel
theorem dX10_isLetter_84 : decode cX10_isLetter 84 = .ok (.bipush 7, 2) := by decide +kernel
theorem dX10_isLetter_86 : decode cX10_isLetter 86 = .ok (.invokestatic 96, 3) := by decide +kernel
theorem dX10_isLetter_89 : decode cX10_isLetter 89 = .ok (.ifCond .ne 5, 3) := by decide +kernel
theorem dX10_isLetter_92 : decode cX10_isLetter 92 = .ok (.iconst 0, 1) := by decide +kernel
theorem dX10_isLetter_93 : decode cX10_isLetter 93 = .ok (.ireturn, 1) := by decide +kernel
theorem dX10_isLetter_94 : decode cX10_isLetter 94 = .ok (.aload_n 0, 1) := by decide +kernel
theorem dX10_isLetter_95 : decode cX10_isLetter 95 = .ok (.dup, 1) := by decide +kernel
theorem dX10_isLetter_96 : decode cX10_isLetter 96 = .ok (.getfield 116, 3) := by decide +kernel
theorem dX10_isLetter_99 : decode cX10_isLetter 99 = .ok (.iconst 1, 1) := by decide +kernel
theorem dX10_isLetter_100 : decode cX10_isLetter 100 = .ok (.iadd, 1) := by decide +kernel
theorem dX10_isLetter_101 : decode cX10_isLetter 101 = .ok (.putfield 116, 3) := by decide +kernel
theorem dX10_isLetter_104 : decode cX10_isLetter 104 = .ok (.aload_n 0, 1) := by decide +kernel
theorem dX10_isLetter_105 : decode cX10_isLetter 105 = .ok (.invokevirtual 119, 3) := by decide +kernel
theorem dX10_isLetter_108 : decode cX10_isLetter 108 = .ok (.invokestatic 126, 3) := by decide +kernel
theorem dX10_isLetter_111 : decode cX10_isLetter 111 = .ok (.istore 4, 2) := by decide +kernel
theorem dX10_isLetter_113 : decode cX10_isLetter 113 = .ok (.iload 4, 2) := by decide +kernel
theorem dX10_isLetter_115 : decode cX10_isLetter 115 = .ok (.ifCond .ge 5, 3) := by decide +kernel
theorem dX10_isLetter_118 : decode cX10_isLetter 118 = .ok (.iconst 0, 1) := by decide +kernel
theorem dX10_isLetter_119 : decode cX10_isLetter 119 = .ok (.ireturn, 1) := by decide +kernel
theorem dX10_isLetter_120 : decode cX10_isLetter 120 = .ok (.aload_n 0, 1) := by decide +kernel
theorem dX10_isLetter_121 : decode cX10_isLetter 121 = .ok (.dup, 1) := by decide +kernel
theorem dX10_isLetter_122 : decode cX10_isLetter 122 = .ok (.getfield 116, 3) := by decide +kernel
theorem dX10_isLetter_125 : decode cX10_isLetter 125 = .ok (.iconst 1, 1) := by decide +kernel
theorem dX10_isLetter_126 : decode cX10_isLetter 126 = .ok (.iadd, 1) := by decide +kernel
theorem dX10_isLetter_127 : decode cX10_isLetter 127 = .ok (.putfield 116, 3) := by decide +kernel
theorem dX10_isLetter_130 : decode cX10_isLetter 130 = .ok (.aload_n 0, 1) := by decide +kernel
theorem dX10_isLetter_131 : decode cX10_isLetter 131 = .ok (.invokevirtual 123, 3) := by decide +kernel
theorem dX10_isLetter_134 : decode cX10_isLetter 134 = .ok (.aload_n 0, 1) := by decide +kernel
theorem dX10_isLetter_135 : decode cX10_isLetter 135 = .ok (.getfield 7, 3) := by decide +kernel
theorem dX10_isLetter_138 : decode cX10_isLetter 138 = .ok (.iload_n 1, 1) := by decide +kernel
theorem dX10_isLetter_139 : decode cX10_isLetter 139 = .ok (.iconst 1, 1) := by decide +kernel
theorem dX10_isLetter_140 : decode cX10_isLetter 140 = .ok (.iadd, 1) := by decide +kernel
theorem dX10_isLetter_141 : decode cX10_isLetter 141 = .ok (.iload_n 2, 1) := by decide +kernel
theorem dX10_isLetter_142 : decode cX10_isLetter 142 = .ok (.iadd, 1) := by decide +kernel
theorem dX10_isLetter_143 : decode cX10_isLetter 143 = .ok (.bipush 16, 2) := by decide +kernel
theorem dX10_isLetter_145 : decode cX10_isLetter 145 = .ok (.iload_n 3, 1) := by decide +kernel
theorem dX10_isLetter_146 : decode cX10_isLetter 146 = .ok (.imul, 1) := by decide +kernel
theorem dX10_isLetter_147 : decode cX10_isLetter 147 = .ok (.iload 4, 2) := by decide +kernel
theorem dX10_isLetter_149 : decode cX10_isLetter 149 = .ok (.iadd, 1) := by decide +kernel
theorem dX10_isLetter_150 : decode cX10_isLetter 150 = .ok (.iastore, 1) := by decide +kernel
theorem dX10_isLetter_151 : decode cX10_isLetter 151 = .ok (.iinc 2 1, 3) := by decide +kernel
theorem dX10_isLetter_154 : decode cX10_isLetter 154 = .ok (.goto (-98), 3) := by decide +kernel
theorem dX10_isLetter_157 : decode cX10_isLetter 157 = .ok (.aload_n 0, 1) := by decide +kernel
theorem dX10_isLetter_158 : decode cX10_isLetter 158 = .ok (.getfield 7, 3) := by decide +kernel
theorem dX10_isLetter_161 : decode cX10_isLetter 161 = .ok (.iload_n 1, 1) := by decide +kernel
theorem dX10_isLetter_162 : decode cX10_isLetter 162 = .ok (.iload_n 2, 1) := by decide +kernel
theorem dX10_isLetter_163 : decode cX10_isLetter 163 = .ok (.iastore, 1) := by decide +kernel
theorem dX10_isLetter_164 : decode cX10_isLetter 164 = .ok (.aload_n 0, 1) := by decide +kernel
theorem dX10_isLetter_165 : decode cX10_isLetter 165 = .ok (.dup, 1) := by decide +kernel
theorem dX10_isLetter_166 : decode cX10_isLetter 166 = .ok (.getfield 116, 3) := by decide +kernel
theorem dX10_isLetter_169 : decode cX10_isLetter 169 = .ok (.iconst 1, 1) := by decide +kernel
theorem dX10_isLetter_170 : decode cX10_isLetter 170 = .ok (.iadd, 1) := by decide +kernel
theorem dX10_isLetter_171 : decode cX10_isLetter 171 = .ok (.putfield 116, 3) := by decide +kernel
theorem dX10_isLetter_174 : decode cX10_isLetter 174 = .ok (.iconst 1, 1) := by decide +kernel
theorem dX10_isLetter_175 : decode cX10_isLetter 175 = .ok (.ireturn, 1) := by decide +kernel
theorem dX10_isText_0 : decode cX10_isText 0 = .ok (.aload_n 0, 1) := by decide +kernel
theorem dX10_isText_1 : decode cX10_isText 1 = .ok (.getfield 7, 3) := by decide +kernel
theorem dX10_isText_4 : decode cX10_isText 4 = .ok (.iconst 4, 1) := by decide +kernel
theorem dX10_isText_5 : decode cX10_isText 5 = .ok (.iaload, 1) := by decide +kernel
theorem dX10_isText_6 : decode cX10_isText 6 = .ok (.bipush 8, 2) := by decide +kernel
theorem dX10_isText_8 : decode cX10_isText 8 = .ok (.if_icmp .ne 5, 3) := by decide +kernel
theorem dX10_isText_11 : decode cX10_isText 11 = .ok (.iconst 0, 1) := by decide +kernel
theorem dX10_isText_12 : decode cX10_isText 12 = .ok (.ireturn, 1) := by decide +kernel
theorem dX10_isText_13 : decode cX10_isText 13 = .ok (.sipush 605, 3) := by decide +kernel
theorem dX10_isText_16 : decode cX10_isText 16 = .ok (.bipush 13, 2) := by decide +kernel
theorem dX10_isText_18 : decode cX10_isText 18 = .ok (.aload_n 0, 1) := by decide +kernel
theorem dX10_isText_19 : decode cX10_isText 19 = .ok (.getfield 7, 3) := by decide +kernel
theorem dX10_isText_22 : decode cX10_isText 22 = .ok (.iconst 4, 1) := by decide +kernel
theorem dX10_isText_23 : decode cX10_isText 23 = .ok (.iaload, 1) := by decide +kernel
theorem dX10_isText_24 : decode cX10_isText 24 = .ok (.imul, 1) := by decide +kernel
theorem dX10_isText_25 : decode cX10_isText 25 = .ok (.iadd, 1) := by decide +kernel
theorem dX10_isText_26 : decode cX10_isText 26 = .ok (.istore_n 1, 1) := by decide +kernel
theorem dX10_isText_27 : decode cX10_isText 27 = .ok (.aload_n 0, 1) := by decide +kernel
theorem dX10_isText_28 : decode cX10_isText 28 = .ok (.dup, 1) := by decide +kernel
theorem dX10_isText_29 : decode cX10_isText 29 = .ok (.getfield 116, 3) := by decide +kernel
theorem dX10_isText_32 : decode cX10_isText 32 = .ok (.iconst 1, 1) := by decide +kernel
theorem dX10_isText_33 : decode cX10_isText 33 = .ok (.iadd, 1) := by decide +kernel
theorem dX10_isText_34 : decode cX10_isText 34 = .ok (.putfield 116, 3) := by decide +kernel
theorem dX10_isText_37 : decode cX10_isText 37 = .ok (.aload_n 0, 1) := by decide +kernel
theorem dX10_isText_38 : decode cX10_isText 38 = .ok (.invokevirtual 123, 3) := by decide +kernel
theorem dX10_isText_41 : decode cX10_isText 41 = .ok (.iconst 0, 1) := by decide +kernel
theorem dX10_isText_42 : decode cX10_isText 42 = .ok (.istore_n 2, 1) := by decide +kernel
theorem dX10_isText_43 : decode cX10_isText 43 = .ok (.iload_n 2, 1) := by decide +kernel
theorem dX10_isText_44 : decode cX10_isText 44 = .ok (.ifCond .eq 12, 3) := by decide +kernel
theorem dX10_isText_47 : decode cX10_isText 47 = .ok (.aload_n 0, 1) := by decide +kernel
theorem dX10_isText_48 : decode cX10_isText 48 = .ok (.invokevirtual 119, 3) := by decide +kernel
theorem dX10_isText_51 : decode cX10_isText 51 = .ok (.bipush 59, 2) := by decide +kernel
theorem dX10_isText_53 : decode cX10_isText 53 = .ok (.if_icmp .eq 78, 3) := by decide +kernel
theorem dX10_isText_56 : decode cX10_isText 56 = .ok (.aload_n 0, 1) := by decide +kernel
theorem dX10_isText_57 : decode cX10_isText 57 = .ok (.invokevirtual 119, 3) := by decide +kernel
theorem dX10_isText_60 : decode cX10_isText 60 = .ok (.istore_n 3, 1) := by decide +kernel
theorem dX10_isText_61 : decode cX10_isText 61 = .ok (.iload_n 2, 1) := by decide +kernel
theorem dX10_isText_62 : decode cX10_isText 62 = .ok (.bipush 12, 2) := by decide +kernel
theorem dX10_isText_64 : decode cX10_isText 64 = .ok (.if_icmp .eq 20, 3) := by decide +kernel
theorem dX10_isText_67 : decode cX10_isText 67 = .ok (.iload_n 3, 1) := by decide +kernel
theorem dX10_isText_68 : decode cX10_isText 68 = .ok (.bipush 97, 2) := by decide +kernel
theorem dX10_isText_70 : decode cX10_isText 70 = .ok (.bipush 122, 2) := by decide +kernel
theorem dX10_isText_72 : decode cX10_isText 72 = .ok (.invokestatic 96, 3) := by decide +kernel
theorem dX10_isText_75 : decode cX10_isText 75 = .ok (.ifCond .ne 11, 3) := by decide +kernel
theorem dX10_isText_78 : decode cX10_isText 78 = .ok (.iload_n 3, 1) := by decide +kernel
theorem dX10_isText_79 : decode cX10_isText 79 = .ok (.bipush 95, 2) := by decide +kernel
theorem dX10_isText_81 : decode cX10_isText 81 = .ok (.if_icmp .eq 5, 3) := by decide +kernel
theorem dX10_isText_84 : decode cX10_isText 84 = .ok (.iconst 0, 1) := by decide +kernel
theorem dX10_isText_85 : decode cX10_isText 85 = .ok (.ireturn, 1) := by decide +kernel
theorem dX10_isText_86 : decode cX10_isText 86 = .ok (.aload_n 0, 1) := by decide +kernel
theorem dX10_isText_87 : decode cX10_isText 87 = .ok (.getfield 7, 3) := by decide +kernel
theorem dX10_isText_90 : decode cX10_isText 90 = .ok (.iload_n 1, 1) := by decide +kernel
theorem dX10_isText_91 : decode cX10_isText 91 = .ok (.iconst 1, 1) := by decide +kernel
theorem dX10_isText_92 : decode cX10_isText 92 = .ok (.iadd, 1) := by decide +kernel
theorem dX10_isText_93 : decode cX10_isText 93 = .ok (.iload_n 2, 1) := by decide +kernel
theorem dX10_isText_94 : decode cX10_isText 94 = .ok (.iadd, 1) := by decide +kernel
theorem dX10_isText_95 : decode cX10_isText 95 = .ok (.iload_n 3, 1) := by decide +kernel
theorem dX10_isText_96 : decode cX10_isText 96 = .ok (.bipush 95, 2) := by decide +kernel
theorem dX10_isText_98 : decode cX10_isText 98 = .ok (.if_icmp .ne 8, 3) := by decide +kernel
theorem dX10_isText_101 : decode cX10_isText 101 = .ok (.bipush 26, 2) := by decide +kernel
theorem dX10_isText_103 : decode cX10_isText 103 = .ok (.goto 7, 3) := by decide +kernel
theorem dX10_isText_106 : decode cX10_isText 106 = .ok (.iload_n 3, 1) := by decide +kernel
theorem dX10_isText_107 : decode cX10_isText 107 = .ok (.bipush 97, 2) := by decide +kernel
theorem dX10_isText_109 : decode cX10_isText 109 = .ok (.isub, 1) := by decide +kernel
theorem dX10_isText_110 : decode cX10_isText 110 = .ok (.iastore, 1) := by decide +kernel
theorem dX10_isText_111 : decode cX10_isText 111 = .ok (.iinc 2 1, 3) := by decide +kernel
theorem dX10_isText_114 : decode cX10_isText 114 = .ok (.aload_n 0, 1) := by decide +kernel
theorem dX10_isText_115 : decode cX10_isText 115 = .ok (.dup, 1) := by decide +kernel
theorem dX10_isText_116 : decode cX10_isText 116 = .ok (.getfield 116, 3) := by decide +kernel
theorem dX10_isText_119 : decode cX10_isText 119 = .ok (.iconst 1, 1) := by decide +kernel
theorem dX10_isText_120 : decode cX10_isText 120 = .ok (.iadd, 1) := by decide +kernel
theorem dX10_isText_121 : decode cX10_isText 121 = .ok (.putfield 116, 3) := by decide +kernel
theorem dX10_isText_124 : decode cX10_isText 124 = .ok (.aload_n 0, 1) := by decide +kernel
theorem dX10_isText_125 : decode cX10_isText 125 = .ok (.invokevirtual 123, 3) := by decide +kernel
theorem dX10_isText_128 : decode cX10_isText 128 = .ok (.goto (-85), 3) := by decide +kernel
theorem dX10_isText_131 : decode cX10_isText 131 = .ok (.aload_n 0, 1) := by decide +kernel
theorem dX10_isText_132 : decode cX10_isText 132 = .ok (.getfield 7, 3) := by decide +kernel
theorem dX10_isText_135 : decode cX10_isText 135 = .ok (.iload_n 1, 1) := by decide +kernel
theorem dX10_isText_136 : decode cX10_isText 136 = .ok (.iload_n 2, 1) := by decide +kernel
theorem dX10_isText_137 : decode cX10_isText 137 = .ok (.iastore, 1) := by decide +kernel
theorem dX10_isText_138 : decode cX10_isText 138 = .ok (.aload_n 0, 1) := by decide +kernel
theorem dX10_isText_139 : decode cX10_isText 139 = .ok (.getfield 7, 3) := by decide +kernel
theorem dX10_isText_142 : decode cX10_isText 142 = .ok (.iconst 4, 1) := by decide +kernel
theorem dX10_isText_143 : decode cX10_isText 143 = .ok (.dup2, 1) := by decide +kernel
theorem dX10_isText_144 : decode cX10_isText 144 = .ok (.iaload, 1) := by decide +kernel
theorem dX10_isText_145 : decode cX10_isText 145 = .ok (.iconst 1, 1) := by decide +kernel
theorem dX10_isText_146 : decode cX10_isText 146 = .ok (.iadd, 1) := by decide +kernel
theorem dX10_isText_147 : decode cX10_isText 147 = .ok (.iastore, 1) := by decide +kernel
theorem dX10_isText_148 : decode cX10_isText 148 = .ok (.aload_n 0, 1) := by decide +kernel
theorem dX10_isText_149 : decode cX10_isText 149 = .ok (.dup, 1) := by decide +kernel
theorem dX10_isText_150 : decode cX10_isText 150 = .ok (.getfield 116, 3) := by decide +kernel
theorem dX10_isText_153 : decode cX10_isText 153 = .ok (.iconst 1, 1) := by decide +kernel
theorem dX10_isText_154 : decode cX10_isText 154 = .ok (.iadd, 1) := by decide +kernel
theorem dX10_isText_155 : decode cX10_isText 155 = .ok (.putfield 116, 3) := by decide +kernel
theorem dX10_isText_158 : decode cX10_isText 158 = .ok (.iconst 1, 1) := by decide +kernel
theorem dX10_isText_159 : decode cX10_isText 159 = .ok (.ireturn, 1) := by decide +kernel
theorem dX10_load_0 : decode cX10_load 0 = .ok (.aload_n 0, 1) := by decide +kernel
theorem dX10_load_1 : decode cX10_load 1 = .ok (.invokevirtual 100, 3) := by decide +kernel
theorem dX10_load_4 : decode cX10_load 4 = .ok (.aload_n 0, 1) := by decide +kernel
theorem dX10_load_5 : decode cX10_load 5 = .ok (.iconst 0, 1) := by decide +kernel
theorem dX10_load_6 : decode cX10_load 6 = .ok (.putfield 116, 3) := by decide +kernel
theorem dX10_load_9 : decode cX10_load 9 = .ok (.iconst 0, 1) := by decide +kernel
theorem dX10_load_10 : decode cX10_load 10 = .ok (.istore_n 1, 1) := by decide +kernel
theorem dX10_load_11 : decode cX10_load 11 = .ok (.aload_n 0, 1) := by decide +kernel
theorem dX10_load_12 : decode cX10_load 12 = .ok (.invokevirtual 123, 3) := by decide +kernel
theorem dX10_load_15 : decode cX10_load 15 = .ok (.aload_n 0, 1) := by decide +kernel
theorem dX10_load_16 : decode cX10_load 16 = .ok (.getfield 116, 3) := by decide +kernel
theorem dX10_load_19 : decode cX10_load 19 = .ok (.aload_n 0, 1) := by decide +kernel
theorem dX10_load_20 : decode cX10_load 20 = .ok (.getfield 113, 3) := by decide +kernel
theorem dX10_load_23 : decode cX10_load 23 = .ok (.if_icmp .ge 80, 3) := by decide +kernel
theorem dX10_load_26 : decode cX10_load 26 = .ok (.aload_n 0, 1) := by decide +kernel
theorem dX10_load_27 : decode cX10_load 27 = .ok (.invokevirtual 119, 3) := by decide +kernel
theorem dX10_load_30 : decode cX10_load 30 = .ok (.bipush 97, 2) := by decide +kernel
theorem dX10_load_32 : decode cX10_load 32 = .ok (.bipush 122, 2) := by decide +kernel
theorem dX10_load_34 : decode cX10_load 34 = .ok (.invokestatic 96, 3) := by decide +kernel
theorem dX10_load_37 : decode cX10_load 37 = .ok (.ifCond .eq 10, 3) := by decide +kernel
theorem dX10_load_40 : decode cX10_load 40 = .ok (.aload_n 0, 1) := by decide +kernel
theorem dX10_load_41 : decode cX10_load 41 = .ok (.invokevirtual 129, 3) := by decide +kernel
theorem dX10_load_44 : decode cX10_load 44 = .ok (.goto 24, 3) := by decide +kernel
theorem dX10_load_47 : decode cX10_load 47 = .ok (.aload_n 0, 1) := by decide +kernel
theorem dX10_load_48 : decode cX10_load 48 = .ok (.invokevirtual 119, 3) := by decide +kernel
theorem dX10_load_51 : decode cX10_load 51 = .ok (.bipush 62, 2) := by decide +kernel
theorem dX10_load_53 : decode cX10_load 53 = .ok (.if_icmp .ne 14, 3) := by decide +kernel
theorem dX10_load_56 : decode cX10_load 56 = .ok (.aload_n 0, 1) := by decide +kernel
theorem dX10_load_57 : decode cX10_load 57 = .ok (.invokevirtual 133, 3) := by decide +kernel
theorem dX10_load_60 : decode cX10_load 60 = .ok (.ifCond .eq 7, 3) := by decide +kernel
theorem dX10_load_63 : decode cX10_load 63 = .ok (.iconst 1, 1) := by decide +kernel
theorem dX10_load_64 : decode cX10_load 64 = .ok (.goto 4, 3) := by decide +kernel
theorem dX10_load_67 : decode cX10_load 67 = .ok (.iconst 0, 1) := by decide +kernel
theorem dX10_load_68 : decode cX10_load 68 = .ok (.istore_n 2, 1) := by decide +kernel
theorem dX10_load_69 : decode cX10_load 69 = .ok (.iload_n 2, 1) := by decide +kernel
theorem dX10_load_70 : decode cX10_load 70 = .ok (.ifCond .ne 23, 3) := by decide +kernel
theorem dX10_load_73 : decode cX10_load 73 = .ok (.aload_n 0, 1) := by decide +kernel
theorem dX10_load_74 : decode cX10_load 74 = .ok (.getfield 7, 3) := by decide +kernel
theorem dX10_load_77 : decode cX10_load 77 = .ok (.aload_n 0, 1) := by decide +kernel
theorem dX10_load_78 : decode cX10_load 78 = .ok (.getfield 16, 3) := by decide +kernel
theorem dX10_load_81 : decode cX10_load 81 = .ok (.invokestatic 46, 3) := by decide +kernel
theorem dX10_load_84 : decode cX10_load 84 = .ok (.sipush (-2000), 3) := by decide +kernel
theorem dX10_load_87 : decode cX10_load 87 = .ok (.aload_n 0, 1) := by decide +kernel
theorem dX10_load_88 : decode cX10_load 88 = .ok (.getfield 116, 3) := by decide +kernel
theorem dX10_load_91 : decode cX10_load 91 = .ok (.isub, 1) := by decide +kernel
theorem dX10_load_92 : decode cX10_load 92 = .ok (.ireturn, 1) := by decide +kernel
theorem dX10_load_93 : decode cX10_load 93 = .ok (.iinc 1 1, 3) := by decide +kernel
theorem dX10_load_96 : decode cX10_load 96 = .ok (.aload_n 0, 1) := by decide +kernel
theorem dX10_load_97 : decode cX10_load 97 = .ok (.invokevirtual 123, 3) := by decide +kernel
theorem dX10_load_100 : decode cX10_load 100 = .ok (.goto (-85), 3) := by decide +kernel
theorem dX10_load_103 : decode cX10_load 103 = .ok (.aload_n 0, 1) := by decide +kernel
theorem dX10_load_104 : decode cX10_load 104 = .ok (.iconst 0, 1) := by decide +kernel
theorem dX10_load_105 : decode cX10_load 105 = .ok (.putfield 113, 3) := by decide +kernel
theorem dX10_load_108 : decode cX10_load 108 = .ok (.aload_n 0, 1) := by decide +kernel
theorem dX10_load_109 : decode cX10_load 109 = .ok (.iload_n 1, 1) := by decide +kernel
theorem dX10_load_110 : decode cX10_load 110 = .ok (.invokevirtual 103, 3) := by decide +kernel
theorem dX10_load_113 : decode cX10_load 113 = .ok (.ireturn, 1) := by decide +kernel
theorem dX10_aims_0 : decode cX10_aims 0 = .ok (.aload_n 0, 1) := by decide +kernel
theorem dX10_aims_1 : decode cX10_aims 1 = .ok (.iload_n 1, 1) := by decide +kernel
theorem dX10_aims_2 : decode cX10_aims 2 = .ok (.aload_n 0, 1) := by decide +kernel
theorem dX10_aims_3 : decode cX10_aims 3 = .ok (.iload_n 1, 1) := by decide +kernel
theorem dX10_aims_4 : decode cX10_aims 4 = .ok (.iload_n 2, 1) := by decide +kernel
theorem dX10_aims_5 : decode cX10_aims 5 = .ok (.invokevirtual 136, 3) := by decide +kernel
theorem dX10_aims_8 : decode cX10_aims 8 = .ok (.aload_n 0, 1) := by decide +kernel
theorem dX10_aims_9 : decode cX10_aims 9 = .ok (.getfield 25, 3) := by decide +kernel
theorem dX10_aims_12 : decode cX10_aims 12 = .ok (.invokevirtual 75, 3) := by decide +kernel
theorem dX10_aims_15 : decode cX10_aims 15 = .ok (.iconst 0, 1) := by decide +kernel
theorem dX10_aims_16 : decode cX10_aims 16 = .ok (.istore_n 3, 1) := by decide +kernel
theorem dX10_aims_17 : decode cX10_aims 17 = .ok (.iload_n 3, 1) := by decide +kernel
theorem dX10_aims_18 : decode cX10_aims 18 = .ok (.bipush 40, 2) := by decide +kernel
theorem dX10_aims_20 : decode cX10_aims 20 = .ok (.if_icmp .ge 24, 3) := by decide +kernel
theorem dX10_aims_23 : decode cX10_aims 23 = .ok (.aload_n 0, 1) := by decide +kernel
theorem dX10_aims_24 : decode cX10_aims 24 = .ok (.getfield 7, 3) := by decide +kernel
theorem dX10_aims_27 : decode cX10_aims 27 = .ok (.bipush 49, 2) := by decide +kernel
theorem dX10_aims_29 : decode cX10_aims 29 = .ok (.iload_n 3, 1) := by decide +kernel
theorem dX10_aims_30 : decode cX10_aims 30 = .ok (.iadd, 1) := by decide +kernel
theorem dX10_aims_31 : decode cX10_aims 31 = .ok (.aload_n 0, 1) := by decide +kernel
theorem dX10_aims_32 : decode cX10_aims 32 = .ok (.getfield 25, 3) := by decide +kernel
theorem dX10_aims_35 : decode cX10_aims 35 = .ok (.iload_n 3, 1) := by decide +kernel
theorem dX10_aims_36 : decode cX10_aims 36 = .ok (.iaload, 1) := by decide +kernel
theorem dX10_aims_37 : decode cX10_aims 37 = .ok (.iastore, 1) := by decide +kernel
theorem dX10_aims_38 : decode cX10_aims 38 = .ok (.iinc 3 1, 3) := by decide +kernel
theorem dX10_aims_41 : decode cX10_aims 41 = .ok (.goto (-24), 3) := by decide +kernel
theorem dX10_aims_44 : decode cX10_aims 44 = .ok (.return_, 1) := by decide +kernel
theorem dX10_isShow_0 : decode cX10_isShow 0 = .ok (.aload_n 0, 1) := by decide +kernel
theorem dX10_isShow_1 : decode cX10_isShow 1 = .ok (.iload_n 1, 1) := by decide +kernel
theorem dX10_isShow_2 : decode cX10_isShow 2 = .ok (.invokevirtual 110, 3) := by decide +kernel
theorem dX10_isShow_5 : decode cX10_isShow 5 = .ok (.ifCond .eq 16, 3) := by decide +kernel
theorem dX10_isShow_8 : decode cX10_isShow 8 = .ok (.iload_n 2, 1) := by decide +kernel
theorem dX10_isShow_9 : decode cX10_isShow 9 = .ok (.iconst 0, 1) := by decide +kernel
theorem dX10_isShow_10 : decode cX10_isShow 10 = .ok (.iconst 1, 1) := by decide +kernel
theorem dX10_isShow_11 : decode cX10_isShow 11 = .ok (.invokestatic 96, 3) := by decide +kernel
theorem dX10_isShow_14 : decode cX10_isShow 14 = .ok (.ifCond .eq 7, 3) := by decide +kernel
theorem dX10_isShow_17 : decode cX10_isShow 17 = .ok (.iconst 1, 1) := by decide +kernel
theorem dX10_isShow_18 : decode cX10_isShow 18 = .ok (.goto 4, 3) := by decide +kernel
theorem dX10_isShow_21 : decode cX10_isShow 21 = .ok (.iconst 0, 1) := by decide +kernel
theorem dX10_isShow_22 : decode cX10_isShow 22 = .ok (.ireturn, 1) := by decide +kernel
theorem dX10_show_0 : decode cX10_show 0 = .ok (.aload_n 0, 1) := by decide +kernel
theorem dX10_show_1 : decode cX10_show 1 = .ok (.iload_n 1, 1) := by decide +kernel
theorem dX10_show_2 : decode cX10_show 2 = .ok (.iload_n 2, 1) := by decide +kernel
theorem dX10_show_3 : decode cX10_show 3 = .ok (.invokevirtual 139, 3) := by decide +kernel
theorem dX10_show_6 : decode cX10_show 6 = .ok (.ifCond .ne 7, 3) := by decide +kernel
theorem dX10_show_9 : decode cX10_show 9 = .ok (.sipush (-1001), 3) := by decide +kernel
theorem dX10_show_12 : decode cX10_show 12 = .ok (.ireturn, 1) := by decide +kernel
theorem dX10_show_13 : decode cX10_show 13 = .ok (.aload_n 0, 1) := by decide +kernel
theorem dX10_show_14 : decode cX10_show 14 = .ok (.invokevirtual 100, 3) := by decide +kernel
theorem dX10_show_17 : decode cX10_show 17 = .ok (.aload_n 0, 1) := by decide +kernel
theorem dX10_show_18 : decode cX10_show 18 = .ok (.iload_n 1, 1) := by decide +kernel
theorem dX10_show_19 : decode cX10_show 19 = .ok (.iload_n 2, 1) := by decide +kernel
theorem dX10_show_20 : decode cX10_show 20 = .ok (.invokevirtual 142, 3) := by decide +kernel
theorem dX10_show_23 : decode cX10_show 23 = .ok (.aload_n 0, 1) := by decide +kernel
theorem dX10_show_24 : decode cX10_show 24 = .ok (.aload_n 0, 1) := by decide +kernel
theorem dX10_show_25 : decode cX10_show 25 = .ok (.invokevirtual 145, 3) := by decide +kernel
theorem dX10_show_28 : decode cX10_show 28 = .ok (.invokevirtual 103, 3) := by decide +kernel
theorem dX10_show_31 : decode cX10_show 31 = .ok (.ireturn, 1) := by decide +kernel
theorem dX10_darken_0 : decode cX10_darken 0 = .ok (.aload_n 0, 1) := by decide +kernel
theorem dX10_darken_1 : decode cX10_darken 1 = .ok (.invokevirtual 100, 3) := by decide +kernel
theorem dX10_darken_4 : decode cX10_darken 4 = .ok (.iconst 0, 1) := by decide +kernel
theorem dX10_darken_5 : decode cX10_darken 5 = .ok (.istore_n 1, 1) := by decide +kernel
theorem dX10_darken_6 : decode cX10_darken 6 = .ok (.iload_n 1, 1) := by decide +kernel
theorem dX10_darken_7 : decode cX10_darken 7 = .ok (.bipush 40, 2) := by decide +kernel
theorem dX10_darken_9 : decode cX10_darken 9 = .ok (.if_icmp .ge 19, 3) := by decide +kernel
theorem dX10_darken_12 : decode cX10_darken 12 = .ok (.aload_n 0, 1) := by decide +kernel
theorem dX10_darken_13 : decode cX10_darken 13 = .ok (.getfield 7, 3) := by decide +kernel
theorem dX10_darken_16 : decode cX10_darken 16 = .ok (.bipush 49, 2) := by decide +kernel
theorem dX10_darken_18 : decode cX10_darken 18 = .ok (.iload_n 1, 1) := by decide +kernel
theorem dX10_darken_19 : decode cX10_darken 19 = .ok (.iadd, 1) := by decide +kernel
theorem dX10_darken_20 : decode cX10_darken 20 = .ok (.iconst 0, 1) := by decide +kernel
theorem dX10_darken_21 : decode cX10_darken 21 = .ok (.iastore, 1) := by decide +kernel
theorem dX10_darken_22 : decode cX10_darken 22 = .ok (.iinc 1 1, 3) := by decide +kernel
theorem dX10_darken_25 : decode cX10_darken 25 = .ok (.goto (-19), 3) := by decide +kernel
theorem dX10_darken_28 : decode cX10_darken 28 = .ok (.aload_n 0, 1) := by decide +kernel
theorem dX10_darken_29 : decode cX10_darken 29 = .ok (.aload_n 0, 1) := by decide +kernel
theorem dX10_darken_30 : decode cX10_darken 30 = .ok (.invokevirtual 145, 3) := by decide +kernel
theorem dX10_darken_33 : decode cX10_darken 33 = .ok (.invokevirtual 103, 3) := by decide +kernel
theorem dX10_darken_36 : decode cX10_darken 36 = .ok (.ireturn, 1) := by decide +kernel
theorem dX10_isDot_0 : decode cX10_isDot 0 = .ok (.aload_n 0, 1) := by decide +kernel
theorem dX10_isDot_1 : decode cX10_isDot 1 = .ok (.iload_n 1, 1) := by decide +kernel
theorem dX10_isDot_2 : decode cX10_isDot 2 = .ok (.invokevirtual 68, 3) := by decide +kernel
theorem dX10_isDot_5 : decode cX10_isDot 5 = .ok (.ifCond .eq 17, 3) := by decide +kernel
theorem dX10_isDot_8 : decode cX10_isDot 8 = .ok (.iload_n 2, 1) := by decide +kernel
theorem dX10_isDot_9 : decode cX10_isDot 9 = .ok (.iconst 0, 1) := by decide +kernel
theorem dX10_isDot_10 : decode cX10_isDot 10 = .ok (.bipush 6, 2) := by decide +kernel
theorem dX10_isDot_12 : decode cX10_isDot 12 = .ok (.invokestatic 96, 3) := by decide +kernel
theorem dX10_isDot_15 : decode cX10_isDot 15 = .ok (.ifCond .eq 7, 3) := by decide +kernel
theorem dX10_isDot_18 : decode cX10_isDot 18 = .ok (.iconst 1, 1) := by decide +kernel
theorem dX10_isDot_19 : decode cX10_isDot 19 = .ok (.goto 4, 3) := by decide +kernel
theorem dX10_isDot_22 : decode cX10_isDot 22 = .ok (.iconst 0, 1) := by decide +kernel
theorem dX10_isDot_23 : decode cX10_isDot 23 = .ok (.ireturn, 1) := by decide +kernel
theorem dX10_jam_0 : decode cX10_jam 0 = .ok (.aload_n 0, 1) := by decide +kernel
theorem dX10_jam_1 : decode cX10_jam 1 = .ok (.iload_n 1, 1) := by decide +kernel
theorem dX10_jam_2 : decode cX10_jam 2 = .ok (.iload_n 2, 1) := by decide +kernel
theorem dX10_jam_3 : decode cX10_jam 3 = .ok (.invokevirtual 148, 3) := by decide +kernel
theorem dX10_jam_6 : decode cX10_jam 6 = .ok (.ifCond .ne 7, 3) := by decide +kernel
theorem dX10_jam_9 : decode cX10_jam 9 = .ok (.sipush (-1001), 3) := by decide +kernel
theorem dX10_jam_12 : decode cX10_jam 12 = .ok (.ireturn, 1) := by decide +kernel
theorem dX10_jam_13 : decode cX10_jam 13 = .ok (.aload_n 0, 1) := by decide +kernel
theorem dX10_jam_14 : decode cX10_jam 14 = .ok (.getfield 7, 3) := by decide +kernel
theorem dX10_jam_17 : decode cX10_jam 17 = .ok (.bipush 89, 2) := by decide +kernel
theorem dX10_jam_19 : decode cX10_jam 19 = .ok (.iload_n 1, 1) := by decide +kernel
theorem dX10_jam_20 : decode cX10_jam 20 = .ok (.iadd, 1) := by decide +kernel
theorem dX10_jam_21 : decode cX10_jam 21 = .ok (.iaload, 1) := by decide +kernel
theorem dX10_jam_22 : decode cX10_jam 22 = .ok (.iload_n 2, 1) := by decide +kernel
theorem dX10_jam_23 : decode cX10_jam 23 = .ok (.ishr, 1) := by decide +kernel
theorem dX10_jam_24 : decode cX10_jam 24 = .ok (.iconst 1, 1) := by decide +kernel
theorem dX10_jam_25 : decode cX10_jam 25 = .ok (.iand, 1) := by decide +kernel
theorem dX10_jam_26 : decode cX10_jam 26 = .ok (.iconst 1, 1) := by decide +kernel
theorem dX10_jam_27 : decode cX10_jam 27 = .ok (.if_icmp .ne 7, 3) := by decide +kernel
theorem dX10_jam_30 : decode cX10_jam 30 = .ok (.sipush (-1002), 3) := by decide +kernel
theorem dX10_jam_33 : decode cX10_jam 33 = .ok (.ireturn, 1) := by decide +kernel
theorem dX10_jam_34 : decode cX10_jam 34 = .ok (.aload_n 0, 1) := by decide +kernel
theorem dX10_jam_35 : decode cX10_jam 35 = .ok (.invokevirtual 100, 3) := by decide +kernel
theorem dX10_jam_38 : decode cX10_jam 38 = .ok (.aload_n 0, 1) := by decide +kernel
theorem dX10_jam_39 : decode cX10_jam 39 = .ok (.getfield 7, 3) := by decide +kernel
theorem dX10_jam_42 : decode cX10_jam 42 = .ok (.bipush 89, 2) := by decide +kernel
theorem dX10_jam_44 : decode cX10_jam 44 = .ok (.iload_n 1, 1) := by decide +kernel
theorem dX10_jam_45 : decode cX10_jam 45 = .ok (.iadd, 1) := by decide +kernel
theorem dX10_jam_46 : decode cX10_jam 46 = .ok (.dup2, 1) := by decide +kernel
theorem dX10_jam_47 : decode cX10_jam 47 = .ok (.iaload, 1) := by decide +kernel
theorem dX10_jam_48 : decode cX10_jam 48 = .ok (.iconst 1, 1) := by decide +kernel
theorem dX10_jam_49 : decode cX10_jam 49 = .ok (.iload_n 2, 1) := by decide +kernel
theorem dX10_jam_50 : decode cX10_jam 50 = .ok (.ishl, 1) := by decide +kernel
theorem dX10_jam_51 : decode cX10_jam 51 = .ok (.ior, 1) := by decide +kernel
theorem dX10_jam_52 : decode cX10_jam 52 = .ok (.iastore, 1) := by decide +kernel
theorem dX10_jam_53 : decode cX10_jam 53 = .ok (.aload_n 0, 1) := by decide +kernel
theorem dX10_jam_54 : decode cX10_jam 54 = .ok (.aload_n 0, 1) := by decide +kernel
theorem dX10_jam_55 : decode cX10_jam 55 = .ok (.getfield 7, 3) := by decide +kernel
theorem dX10_jam_58 : decode cX10_jam 58 = .ok (.sipush 169, 3) := by decide +kernel
theorem dX10_jam_61 : decode cX10_jam 61 = .ok (.bipush 7, 2) := by decide +kernel
theorem dX10_jam_63 : decode cX10_jam 63 = .ok (.iload_n 1, 1) := by decide +kernel
theorem dX10_jam_64 : decode cX10_jam 64 = .ok (.imul, 1) := by decide +kernel
theorem dX10_jam_65 : decode cX10_jam 65 = .ok (.iadd, 1) := by decide +kernel
theorem dX10_jam_66 : decode cX10_jam 66 = .ok (.iload_n 2, 1) := by decide +kernel
theorem dX10_jam_67 : decode cX10_jam 67 = .ok (.iadd, 1) := by decide +kernel
theorem dX10_jam_68 : decode cX10_jam 68 = .ok (.iaload, 1) := by decide +kernel
theorem dX10_jam_69 : decode cX10_jam 69 = .ok (.invokevirtual 103, 3) := by decide +kernel
theorem dX10_jam_72 : decode cX10_jam 72 = .ok (.ireturn, 1) := by decide +kernel
theorem dX10_mend_0 : decode cX10_mend 0 = .ok (.aload_n 0, 1) := by decide +kernel
theorem dX10_mend_1 : decode cX10_mend 1 = .ok (.iload_n 1, 1) := by decide +kernel
theorem dX10_mend_2 : decode cX10_mend 2 = .ok (.iload_n 2, 1) := by decide +kernel
theorem dX10_mend_3 : decode cX10_mend 3 = .ok (.invokevirtual 148, 3) := by decide +kernel
theorem dX10_mend_6 : decode cX10_mend 6 = .ok (.ifCond .ne 7, 3) := by decide +kernel
theorem dX10_mend_9 : decode cX10_mend 9 = .ok (.sipush (-1001), 3) := by decide +kernel
theorem dX10_mend_12 : decode cX10_mend 12 = .ok (.ireturn, 1) := by decide +kernel
theorem dX10_mend_13 : decode cX10_mend 13 = .ok (.aload_n 0, 1) := by decide +kernel
theorem dX10_mend_14 : decode cX10_mend 14 = .ok (.invokevirtual 100, 3) := by decide +kernel
theorem dX10_mend_17 : decode cX10_mend 17 = .ok (.aload_n 0, 1) := by decide +kernel
theorem dX10_mend_18 : decode cX10_mend 18 = .ok (.getfield 7, 3) := by decide +kernel
theorem dX10_mend_21 : decode cX10_mend 21 = .ok (.bipush 89, 2) := by decide +kernel
theorem dX10_mend_23 : decode cX10_mend 23 = .ok (.iload_n 1, 1) := by decide +kernel
theorem dX10_mend_24 : decode cX10_mend 24 = .ok (.iadd, 1) := by decide +kernel
theorem dX10_mend_25 : decode cX10_mend 25 = .ok (.iaload, 1) := by decide +kernel
theorem dX10_mend_26 : decode cX10_mend 26 = .ok (.iload_n 2, 1) := by decide +kernel
theorem dX10_mend_27 : decode cX10_mend 27 = .ok (.ishr, 1) := by decide +kernel
theorem dX10_mend_28 : decode cX10_mend 28 = .ok (.iconst 1, 1) := by decide +kernel
theorem dX10_mend_29 : decode cX10_mend 29 = .ok (.iand, 1) := by decide +kernel
theorem dX10_mend_30 : decode cX10_mend 30 = .ok (.istore_n 3, 1) := by decide +kernel
theorem dX10_mend_31 : decode cX10_mend 31 = .ok (.aload_n 0, 1) := by decide +kernel
theorem dX10_mend_32 : decode cX10_mend 32 = .ok (.getfield 7, 3) := by decide +kernel
theorem dX10_mend_35 : decode cX10_mend 35 = .ok (.bipush 89, 2) := by decide +kernel
theorem dX10_mend_37 : decode cX10_mend 37 = .ok (.iload_n 1, 1) := by decide +kernel
theorem dX10_mend_38 : decode cX10_mend 38 = .ok (.iadd, 1) := by decide +kernel
theorem dX10_mend_39 : decode cX10_mend 39 = .ok (.dup2, 1) := by decide +kernel
theorem dX10_mend_40 : decode cX10_mend 40 = .ok (.iaload, 1) := by decide +kernel
theorem dX10_mend_41 : decode cX10_mend 41 = .ok (.iconst 1, 1) := by decide +kernel
theorem dX10_mend_42 : decode cX10_mend 42 = .ok (.iload_n 2, 1) := by decide +kernel
theorem dX10_mend_43 : decode cX10_mend 43 = .ok (.ishl, 1) := by decide +kernel
theorem dX10_mend_44 : decode cX10_mend 44 = .ok (.iconst (-1), 1) := by decide +kernel
theorem dX10_mend_45 : decode cX10_mend 45 = .ok (.ixor, 1) := by decide +kernel
theorem dX10_mend_46 : decode cX10_mend 46 = .ok (.iand, 1) := by decide +kernel
theorem dX10_mend_47 : decode cX10_mend 47 = .ok (.iastore, 1) := by decide +kernel
theorem dX10_mend_48 : decode cX10_mend 48 = .ok (.aload_n 0, 1) := by decide +kernel
theorem dX10_mend_49 : decode cX10_mend 49 = .ok (.getfield 7, 3) := by decide +kernel
theorem dX10_mend_52 : decode cX10_mend 52 = .ok (.sipush 129, 3) := by decide +kernel
theorem dX10_mend_55 : decode cX10_mend 55 = .ok (.iload_n 1, 1) := by decide +kernel
theorem dX10_mend_56 : decode cX10_mend 56 = .ok (.iadd, 1) := by decide +kernel
theorem dX10_mend_57 : decode cX10_mend 57 = .ok (.dup2, 1) := by decide +kernel
theorem dX10_mend_58 : decode cX10_mend 58 = .ok (.iaload, 1) := by decide +kernel
theorem dX10_mend_59 : decode cX10_mend 59 = .ok (.iconst 1, 1) := by decide +kernel
theorem dX10_mend_60 : decode cX10_mend 60 = .ok (.iload_n 2, 1) := by decide +kernel
theorem dX10_mend_61 : decode cX10_mend 61 = .ok (.ishl, 1) := by decide +kernel
theorem dX10_mend_62 : decode cX10_mend 62 = .ok (.iconst (-1), 1) := by decide +kernel
theorem dX10_mend_63 : decode cX10_mend 63 = .ok (.ixor, 1) := by decide +kernel
theorem dX10_mend_64 : decode cX10_mend 64 = .ok (.iand, 1) := by decide +kernel
theorem dX10_mend_65 : decode cX10_mend 65 = .ok (.iastore, 1) := by decide +kernel
theorem dX10_mend_66 : decode cX10_mend 66 = .ok (.aload_n 0, 1) := by decide +kernel
theorem dX10_mend_67 : decode cX10_mend 67 = .ok (.getfield 7, 3) := by decide +kernel
theorem dX10_mend_70 : decode cX10_mend 70 = .ok (.sipush 169, 3) := by decide +kernel
theorem dX10_mend_73 : decode cX10_mend 73 = .ok (.bipush 7, 2) := by decide +kernel
theorem dX10_mend_75 : decode cX10_mend 75 = .ok (.iload_n 1, 1) := by decide +kernel
theorem dX10_mend_76 : decode cX10_mend 76 = .ok (.imul, 1) := by decide +kernel
theorem dX10_mend_77 : decode cX10_mend 77 = .ok (.iadd, 1) := by decide +kernel
theorem dX10_mend_78 : decode cX10_mend 78 = .ok (.iload_n 2, 1) := by decide +kernel
theorem dX10_mend_79 : decode cX10_mend 79 = .ok (.iadd, 1) := by decide +kernel
theorem dX10_mend_80 : decode cX10_mend 80 = .ok (.iconst 0, 1) := by decide +kernel
theorem dX10_mend_81 : decode cX10_mend 81 = .ok (.iastore, 1) := by decide +kernel
theorem dX10_mend_82 : decode cX10_mend 82 = .ok (.aload_n 0, 1) := by decide +kernel
theorem dX10_mend_83 : decode cX10_mend 83 = .ok (.iload_n 3, 1) := by decide +kernel
theorem dX10_mend_84 : decode cX10_mend 84 = .ok (.invokevirtual 103, 3) := by decide +kernel
theorem dX10_mend_87 : decode cX10_mend 87 = .ok (.ireturn, 1) := by decide +kernel
theorem dX10_pass_0 : decode cX10_pass 0 = .ok (.iload_n 1, 1) := by decide +kernel
theorem dX10_pass_1 : decode cX10_pass 1 = .ok (.iconst 1, 1) := by decide +kernel
theorem dX10_pass_2 : decode cX10_pass 2 = .ok (.sipush 200, 3) := by decide +kernel
theorem dX10_pass_5 : decode cX10_pass 5 = .ok (.invokestatic 96, 3) := by decide +kernel
theorem dX10_pass_8 : decode cX10_pass 8 = .ok (.ifCond .ne 7, 3) := by decide +kernel
theorem dX10_pass_11 : decode cX10_pass 11 = .ok (.sipush (-1001), 3) := by decide +kernel
theorem dX10_pass_14 : decode cX10_pass 14 = .ok (.ireturn, 1) := by decide +kernel
theorem dX10_pass_15 : decode cX10_pass 15 = .ok (.aload_n 0, 1) := by decide +kernel
theorem dX10_pass_16 : decode cX10_pass 16 = .ok (.invokevirtual 100, 3) := by decide +kernel
theorem dX10_pass_19 : decode cX10_pass 19 = .ok (.iconst 0, 1) := by decide +kernel
theorem dX10_pass_20 : decode cX10_pass 20 = .ok (.istore_n 2, 1) := by decide +kernel
theorem dX10_pass_21 : decode cX10_pass 21 = .ok (.iload_n 2, 1) := by decide +kernel
theorem dX10_pass_22 : decode cX10_pass 22 = .ok (.iload_n 1, 1) := by decide +kernel
theorem dX10_pass_23 : decode cX10_pass 23 = .ok (.if_icmp .ge 13, 3) := by decide +kernel
theorem dX10_pass_26 : decode cX10_pass 26 = .ok (.aload_n 0, 1) := by decide +kernel
theorem dX10_pass_27 : decode cX10_pass 27 = .ok (.invokevirtual 151, 3) := by decide +kernel
theorem dX10_pass_30 : decode cX10_pass 30 = .ok (.iinc 2 1, 3) := by decide +kernel
theorem dX10_pass_33 : decode cX10_pass 33 = .ok (.goto (-12), 3) := by decide +kernel
theorem dX10_pass_36 : decode cX10_pass 36 = .ok (.aload_n 0, 1) := by decide +kernel
theorem dX10_pass_37 : decode cX10_pass 37 = .ok (.aload_n 0, 1) := by decide +kernel
theorem dX10_pass_38 : decode cX10_pass 38 = .ok (.invokevirtual 145, 3) := by decide +kernel
theorem dX10_pass_41 : decode cX10_pass 41 = .ok (.invokevirtual 103, 3) := by decide +kernel
theorem dX10_pass_44 : decode cX10_pass 44 = .ok (.ireturn, 1) := by decide +kernel
theorem dX10_bitsOf_0 : decode cX10_bitsOf 0 = .ok (.iconst 0, 1) := by decide +kernel
theorem dX10_bitsOf_1 : decode cX10_bitsOf 1 = .ok (.istore_n 2, 1) := by decide +kernel
theorem dX10_bitsOf_2 : decode cX10_bitsOf 2 = .ok (.iconst 0, 1) := by decide +kernel
theorem dX10_bitsOf_3 : decode cX10_bitsOf 3 = .ok (.istore_n 3, 1) := by decide +kernel
theorem dX10_bitsOf_4 : decode cX10_bitsOf 4 = .ok (.iload_n 3, 1) := by decide +kernel
theorem dX10_bitsOf_5 : decode cX10_bitsOf 5 = .ok (.aload_n 0, 1) := by decide +kernel
theorem dX10_bitsOf_6 : decode cX10_bitsOf 6 = .ok (.getfield 7, 3) := by decide +kernel
theorem dX10_bitsOf_9 : decode cX10_bitsOf 9 = .ok (.iconst 0, 1) := by decide +kernel
theorem dX10_bitsOf_10 : decode cX10_bitsOf 10 = .ok (.iaload, 1) := by decide +kernel
theorem dX10_bitsOf_11 : decode cX10_bitsOf 11 = .ok (.if_icmp .ge 23, 3) := by decide +kernel
theorem dX10_bitsOf_14 : decode cX10_bitsOf 14 = .ok (.iload_n 2, 1) := by decide +kernel
theorem dX10_bitsOf_15 : decode cX10_bitsOf 15 = .ok (.aload_n 0, 1) := by decide +kernel
theorem dX10_bitsOf_16 : decode cX10_bitsOf 16 = .ok (.getfield 7, 3) := by decide +kernel
theorem dX10_bitsOf_19 : decode cX10_bitsOf 19 = .ok (.iload_n 1, 1) := by decide +kernel
theorem dX10_bitsOf_20 : decode cX10_bitsOf 20 = .ok (.iload_n 3, 1) := by decide +kernel
theorem dX10_bitsOf_21 : decode cX10_bitsOf 21 = .ok (.iadd, 1) := by decide +kernel
theorem dX10_bitsOf_22 : decode cX10_bitsOf 22 = .ok (.iaload, 1) := by decide +kernel
theorem dX10_bitsOf_23 : decode cX10_bitsOf 23 = .ok (.invokestatic 72, 3) := by decide +kernel
theorem dX10_bitsOf_26 : decode cX10_bitsOf 26 = .ok (.iadd, 1) := by decide +kernel
theorem dX10_bitsOf_27 : decode cX10_bitsOf 27 = .ok (.istore_n 2, 1) := by decide +kernel
theorem dX10_bitsOf_28 : decode cX10_bitsOf 28 = .ok (.iinc 3 1, 3) := by decide +kernel
theorem dX10_bitsOf_31 : decode cX10_bitsOf 31 = .ok (.goto (-27), 3) := by decide +kernel
theorem dX10_bitsOf_34 : decode cX10_bitsOf 34 = .ok (.iload_n 2, 1) := by decide +kernel
theorem dX10_bitsOf_35 : decode cX10_bitsOf 35 = .ok (.ireturn, 1) := by decide +kernel
theorem dX10_offMany_0 : decode cX10_offMany 0 = .ok (.iconst 0, 1) := by decide +kernel
theorem dX10_offMany_1 : decode cX10_offMany 1 = .ok (.istore_n 1, 1) := by decide +kernel
theorem dX10_offMany_2 : decode cX10_offMany 2 = .ok (.iconst 0, 1) := by decide +kernel
theorem dX10_offMany_3 : decode cX10_offMany 3 = .ok (.istore_n 2, 1) := by decide +kernel
theorem dX10_offMany_4 : decode cX10_offMany 4 = .ok (.iload_n 2, 1) := by decide +kernel
theorem dX10_offMany_5 : decode cX10_offMany 5 = .ok (.aload_n 0, 1) := by decide +kernel
theorem dX10_offMany_6 : decode cX10_offMany 6 = .ok (.getfield 7, 3) := by decide +kernel
theorem dX10_offMany_9 : decode cX10_offMany 9 = .ok (.iconst 0, 1) := by decide +kernel
theorem dX10_offMany_10 : decode cX10_offMany 10 = .ok (.iaload, 1) := by decide +kernel
theorem dX10_offMany_11 : decode cX10_offMany 11 = .ok (.if_icmp .ge 34, 3) := by decide +kernel
theorem dX10_offMany_14 : decode cX10_offMany 14 = .ok (.iload_n 1, 1) := by decide +kernel
theorem dX10_offMany_15 : decode cX10_offMany 15 = .ok (.aload_n 0, 1) := by decide +kernel
theorem dX10_offMany_16 : decode cX10_offMany 16 = .ok (.getfield 7, 3) := by decide +kernel
theorem dX10_offMany_19 : decode cX10_offMany 19 = .ok (.bipush 9, 2) := by decide +kernel
theorem dX10_offMany_21 : decode cX10_offMany 21 = .ok (.iload_n 2, 1) := by decide +kernel
theorem dX10_offMany_22 : decode cX10_offMany 22 = .ok (.iadd, 1) := by decide +kernel
theorem dX10_offMany_23 : decode cX10_offMany 23 = .ok (.iaload, 1) := by decide +kernel
theorem dX10_offMany_24 : decode cX10_offMany 24 = .ok (.aload_n 0, 1) := by decide +kernel
theorem dX10_offMany_25 : decode cX10_offMany 25 = .ok (.getfield 7, 3) := by decide +kernel
theorem dX10_offMany_28 : decode cX10_offMany 28 = .ok (.bipush 49, 2) := by decide +kernel
theorem dX10_offMany_30 : decode cX10_offMany 30 = .ok (.iload_n 2, 1) := by decide +kernel
theorem dX10_offMany_31 : decode cX10_offMany 31 = .ok (.iadd, 1) := by decide +kernel
theorem dX10_offMany_32 : decode cX10_offMany 32 = .ok (.iaload, 1) := by decide +kernel
theorem dX10_offMany_33 : decode cX10_offMany 33 = .ok (.ixor, 1) := by decide +kernel
theorem dX10_offMany_34 : decode cX10_offMany 34 = .ok (.invokestatic 72, 3) := by decide +kernel
theorem dX10_offMany_37 : decode cX10_offMany 37 = .ok (.iadd, 1) := by decide +kernel
theorem dX10_offMany_38 : decode cX10_offMany 38 = .ok (.istore_n 1, 1) := by decide +kernel
theorem dX10_offMany_39 : decode cX10_offMany 39 = .ok (.iinc 2 1, 3) := by decide +kernel
theorem dX10_offMany_42 : decode cX10_offMany 42 = .ok (.goto (-38), 3) := by decide +kernel
theorem dX10_offMany_45 : decode cX10_offMany 45 = .ok (.iload_n 1, 1) := by decide +kernel
theorem dX10_offMany_46 : decode cX10_offMany 46 = .ok (.ireturn, 1) := by decide +kernel
theorem dX10_count_0 : decode cX10_count 0 = .ok (.iload_n 1, 1) := by decide +kernel
theorem dX10_count_1 : decode cX10_count 1 = .ok (.tableswitch 129 0 14 #[75, 75, 75, 75, 75, 82, 87, 94, 102, 107, 107, 107, 107, 119, 124], 75) := by decide +kernel
theorem dX10_count_76 : decode cX10_count 76 = .ok (.aload_n 0, 1) := by decide +kernel
theorem dX10_count_77 : decode cX10_count 77 = .ok (.getfield 7, 3) := by decide +kernel
theorem dX10_count_80 : decode cX10_count 80 = .ok (.iload_n 1, 1) := by decide +kernel
theorem dX10_count_81 : decode cX10_count 81 = .ok (.iaload, 1) := by decide +kernel
theorem dX10_count_82 : decode cX10_count 82 = .ok (.ireturn, 1) := by decide +kernel
theorem dX10_count_83 : decode cX10_count 83 = .ok (.aload_n 0, 1) := by decide +kernel
theorem dX10_count_84 : decode cX10_count 84 = .ok (.invokevirtual 145, 3) := by decide +kernel
theorem dX10_count_87 : decode cX10_count 87 = .ok (.ireturn, 1) := by decide +kernel
theorem dX10_count_88 : decode cX10_count 88 = .ok (.aload_n 0, 1) := by decide +kernel
theorem dX10_count_89 : decode cX10_count 89 = .ok (.bipush 89, 2) := by decide +kernel
theorem dX10_count_91 : decode cX10_count 91 = .ok (.invokevirtual 154, 3) := by decide +kernel
theorem dX10_count_94 : decode cX10_count 94 = .ok (.ireturn, 1) := by decide +kernel
theorem dX10_count_95 : decode cX10_count 95 = .ok (.aload_n 0, 1) := by decide +kernel
theorem dX10_count_96 : decode cX10_count 96 = .ok (.sipush 129, 3) := by decide +kernel
theorem dX10_count_99 : decode cX10_count 99 = .ok (.invokevirtual 154, 3) := by decide +kernel
theorem dX10_count_102 : decode cX10_count 102 = .ok (.ireturn, 1) := by decide +kernel
theorem dX10_count_103 : decode cX10_count 103 = .ok (.aload_n 0, 1) := by decide +kernel
theorem dX10_count_104 : decode cX10_count 104 = .ok (.invokevirtual 157, 3) := by decide +kernel
theorem dX10_count_107 : decode cX10_count 107 = .ok (.ireturn, 1) := by decide +kernel
theorem dX10_count_108 : decode cX10_count 108 = .ok (.aload_n 0, 1) := by decide +kernel
theorem dX10_count_109 : decode cX10_count 109 = .ok (.getfield 7, 3) := by decide +kernel
theorem dX10_count_112 : decode cX10_count 112 = .ok (.iconst 5, 1) := by decide +kernel
theorem dX10_count_113 : decode cX10_count 113 = .ok (.iload_n 1, 1) := by decide +kernel
theorem dX10_count_114 : decode cX10_count 114 = .ok (.iadd, 1) := by decide +kernel
theorem dX10_count_115 : decode cX10_count 115 = .ok (.bipush 9, 2) := by decide +kernel
theorem dX10_count_117 : decode cX10_count 117 = .ok (.isub, 1) := by decide +kernel
theorem dX10_count_118 : decode cX10_count 118 = .ok (.iaload, 1) := by decide +kernel
theorem dX10_count_119 : decode cX10_count 119 = .ok (.ireturn, 1) := by decide +kernel
theorem dX10_count_120 : decode cX10_count 120 = .ok (.aload_n 0, 1) := by decide +kernel
theorem dX10_count_121 : decode cX10_count 121 = .ok (.getfield 113, 3) := by decide +kernel
theorem dX10_count_124 : decode cX10_count 124 = .ok (.ireturn, 1) := by decide +kernel
theorem dX10_count_125 : decode cX10_count 125 = .ok (.aload_n 0, 1) := by decide +kernel
theorem dX10_count_126 : decode cX10_count 126 = .ok (.getfield 50, 3) := by decide +kernel
theorem dX10_count_129 : decode cX10_count 129 = .ok (.ireturn, 1) := by decide +kernel
theorem dX10_count_130 : decode cX10_count 130 = .ok (.sipush (-1001), 3) := by decide +kernel
theorem dX10_count_133 : decode cX10_count 133 = .ok (.ireturn, 1) := by decide +kernel
theorem dX10_column_0 : decode cX10_column 0 = .ok (.aload_n 0, 1) := by decide +kernel
theorem dX10_column_1 : decode cX10_column 1 = .ok (.iload_n 1, 1) := by decide +kernel
theorem dX10_column_2 : decode cX10_column 2 = .ok (.invokevirtual 68, 3) := by decide +kernel
theorem dX10_column_5 : decode cX10_column 5 = .ok (.ifCond .eq 29, 3) := by decide +kernel
theorem dX10_column_8 : decode cX10_column 8 = .ok (.iload_n 2, 1) := by decide +kernel
theorem dX10_column_9 : decode cX10_column 9 = .ok (.iconst 0, 1) := by decide +kernel
theorem dX10_column_10 : decode cX10_column 10 = .ok (.iconst 3, 1) := by decide +kernel
theorem dX10_column_11 : decode cX10_column 11 = .ok (.invokestatic 96, 3) := by decide +kernel
theorem dX10_column_14 : decode cX10_column 14 = .ok (.ifCond .eq 20, 3) := by decide +kernel
theorem dX10_column_17 : decode cX10_column 17 = .ok (.aload_n 0, 1) := by decide +kernel
theorem dX10_column_18 : decode cX10_column 18 = .ok (.getfield 7, 3) := by decide +kernel
theorem dX10_column_21 : decode cX10_column 21 = .ok (.bipush 9, 2) := by decide +kernel
theorem dX10_column_23 : decode cX10_column 23 = .ok (.bipush 40, 2) := by decide +kernel
theorem dX10_column_25 : decode cX10_column 25 = .ok (.iload_n 2, 1) := by decide +kernel
theorem dX10_column_26 : decode cX10_column 26 = .ok (.imul, 1) := by decide +kernel
theorem dX10_column_27 : decode cX10_column 27 = .ok (.iadd, 1) := by decide +kernel
theorem dX10_column_28 : decode cX10_column 28 = .ok (.iload_n 1, 1) := by decide +kernel
theorem dX10_column_29 : decode cX10_column 29 = .ok (.iadd, 1) := by decide +kernel
theorem dX10_column_30 : decode cX10_column 30 = .ok (.iaload, 1) := by decide +kernel
theorem dX10_column_31 : decode cX10_column 31 = .ok (.goto 6, 3) := by decide +kernel
theorem dX10_column_34 : decode cX10_column 34 = .ok (.sipush (-1001), 3) := by decide +kernel
theorem dX10_column_37 : decode cX10_column 37 = .ok (.ireturn, 1) := by decide +kernel
theorem dX10_flips_0 : decode cX10_flips 0 = .ok (.aload_n 0, 1) := by decide +kernel
theorem dX10_flips_1 : decode cX10_flips 1 = .ok (.iload_n 1, 1) := by decide +kernel
theorem dX10_flips_2 : decode cX10_flips 2 = .ok (.iload_n 2, 1) := by decide +kernel
theorem dX10_flips_3 : decode cX10_flips 3 = .ok (.invokevirtual 148, 3) := by decide +kernel
theorem dX10_flips_6 : decode cX10_flips 6 = .ok (.ifCond .eq 21, 3) := by decide +kernel
theorem dX10_flips_9 : decode cX10_flips 9 = .ok (.aload_n 0, 1) := by decide +kernel
theorem dX10_flips_10 : decode cX10_flips 10 = .ok (.getfield 7, 3) := by decide +kernel
theorem dX10_flips_13 : decode cX10_flips 13 = .ok (.sipush 169, 3) := by decide +kernel
theorem dX10_flips_16 : decode cX10_flips 16 = .ok (.bipush 7, 2) := by decide +kernel
theorem dX10_flips_18 : decode cX10_flips 18 = .ok (.iload_n 1, 1) := by decide +kernel
theorem dX10_flips_19 : decode cX10_flips 19 = .ok (.imul, 1) := by decide +kernel
theorem dX10_flips_20 : decode cX10_flips 20 = .ok (.iadd, 1) := by decide +kernel
theorem dX10_flips_21 : decode cX10_flips 21 = .ok (.iload_n 2, 1) := by decide +kernel
theorem dX10_flips_22 : decode cX10_flips 22 = .ok (.iadd, 1) := by decide +kernel
theorem dX10_flips_23 : decode cX10_flips 23 = .ok (.iaload, 1) := by decide +kernel
theorem dX10_flips_24 : decode cX10_flips 24 = .ok (.goto 6, 3) := by decide +kernel
theorem dX10_flips_27 : decode cX10_flips 27 = .ok (.sipush (-1001), 3) := by decide +kernel
theorem dX10_flips_30 : decode cX10_flips 30 = .ok (.ireturn, 1) := by decide +kernel
theorem dX10_letter_0 : decode cX10_letter 0 = .ok (.iload_n 1, 1) := by decide +kernel
theorem dX10_letter_1 : decode cX10_letter 1 = .ok (.iconst 0, 1) := by decide +kernel
theorem dX10_letter_2 : decode cX10_letter 2 = .ok (.bipush 25, 2) := by decide +kernel
theorem dX10_letter_4 : decode cX10_letter 4 = .ok (.invokestatic 96, 3) := by decide +kernel
theorem dX10_letter_7 : decode cX10_letter 7 = .ok (.ifCond .eq 7, 3) := by decide +kernel
theorem dX10_letter_10 : decode cX10_letter 10 = .ok (.iload_n 2, 1) := by decide +kernel
theorem dX10_letter_11 : decode cX10_letter 11 = .ok (.ifCond .ge 7, 3) := by decide +kernel
theorem dX10_letter_14 : decode cX10_letter 14 = .ok (.sipush (-1001), 3) := by decide +kernel
theorem dX10_letter_17 : decode cX10_letter 17 = .ok (.ireturn, 1) := by decide +kernel
theorem dX10_letter_18 : decode cX10_letter 18 = .ok (.iload_n 2, 1) := by decide +kernel
theorem dX10_letter_19 : decode cX10_letter 19 = .ok (.aload_n 0, 1) := by decide +kernel
theorem dX10_letter_20 : decode cX10_letter 20 = .ok (.getfield 7, 3) := by decide +kernel
theorem dX10_letter_23 : decode cX10_letter 23 = .ok (.sipush 449, 3) := by decide +kernel
theorem dX10_letter_26 : decode cX10_letter 26 = .ok (.bipush 6, 2) := by decide +kernel
theorem dX10_letter_28 : decode cX10_letter 28 = .ok (.iload_n 1, 1) := by decide +kernel
theorem dX10_letter_29 : decode cX10_letter 29 = .ok (.imul, 1) := by decide +kernel
theorem dX10_letter_30 : decode cX10_letter 30 = .ok (.iadd, 1) := by decide +kernel
theorem dX10_letter_31 : decode cX10_letter 31 = .ok (.iaload, 1) := by decide +kernel
theorem dX10_letter_32 : decode cX10_letter 32 = .ok (.if_icmp .ge 23, 3) := by decide +kernel
theorem dX10_letter_35 : decode cX10_letter 35 = .ok (.aload_n 0, 1) := by decide +kernel
theorem dX10_letter_36 : decode cX10_letter 36 = .ok (.getfield 7, 3) := by decide +kernel
theorem dX10_letter_39 : decode cX10_letter 39 = .ok (.sipush 449, 3) := by decide +kernel
theorem dX10_letter_42 : decode cX10_letter 42 = .ok (.bipush 6, 2) := by decide +kernel
theorem dX10_letter_44 : decode cX10_letter 44 = .ok (.iload_n 1, 1) := by decide +kernel
theorem dX10_letter_45 : decode cX10_letter 45 = .ok (.imul, 1) := by decide +kernel
theorem dX10_letter_46 : decode cX10_letter 46 = .ok (.iadd, 1) := by decide +kernel
theorem dX10_letter_47 : decode cX10_letter 47 = .ok (.iconst 1, 1) := by decide +kernel
theorem dX10_letter_48 : decode cX10_letter 48 = .ok (.iadd, 1) := by decide +kernel
theorem dX10_letter_49 : decode cX10_letter 49 = .ok (.iload_n 2, 1) := by decide +kernel
theorem dX10_letter_50 : decode cX10_letter 50 = .ok (.iadd, 1) := by decide +kernel
theorem dX10_letter_51 : decode cX10_letter 51 = .ok (.iaload, 1) := by decide +kernel
theorem dX10_letter_52 : decode cX10_letter 52 = .ok (.goto 6, 3) := by decide +kernel
theorem dX10_letter_55 : decode cX10_letter 55 = .ok (.sipush (-1009), 3) := by decide +kernel
theorem dX10_letter_58 : decode cX10_letter 58 = .ok (.ireturn, 1) := by decide +kernel
theorem dX10_message_0 : decode cX10_message 0 = .ok (.aload_n 0, 1) := by decide +kernel
theorem dX10_message_1 : decode cX10_message 1 = .ok (.iload_n 1, 1) := by decide +kernel
theorem dX10_message_2 : decode cX10_message 2 = .ok (.invokevirtual 110, 3) := by decide +kernel
theorem dX10_message_5 : decode cX10_message 5 = .ok (.ifCond .eq 7, 3) := by decide +kernel
theorem dX10_message_8 : decode cX10_message 8 = .ok (.iload_n 2, 1) := by decide +kernel
theorem dX10_message_9 : decode cX10_message 9 = .ok (.ifCond .ge 7, 3) := by decide +kernel
theorem dX10_message_12 : decode cX10_message 12 = .ok (.sipush (-1001), 3) := by decide +kernel
theorem dX10_message_15 : decode cX10_message 15 = .ok (.ireturn, 1) := by decide +kernel
theorem dX10_message_16 : decode cX10_message 16 = .ok (.iload_n 2, 1) := by decide +kernel
theorem dX10_message_17 : decode cX10_message 17 = .ok (.aload_n 0, 1) := by decide +kernel
theorem dX10_message_18 : decode cX10_message 18 = .ok (.iload_n 1, 1) := by decide +kernel
theorem dX10_message_19 : decode cX10_message 19 = .ok (.invokevirtual 54, 3) := by decide +kernel
theorem dX10_message_22 : decode cX10_message 22 = .ok (.if_icmp .ge 12, 3) := by decide +kernel
theorem dX10_message_25 : decode cX10_message 25 = .ok (.aload_n 0, 1) := by decide +kernel
theorem dX10_message_26 : decode cX10_message 26 = .ok (.iload_n 1, 1) := by decide +kernel
theorem dX10_message_27 : decode cX10_message 27 = .ok (.iload_n 2, 1) := by decide +kernel
theorem dX10_message_28 : decode cX10_message 28 = .ok (.invokevirtual 58, 3) := by decide +kernel
theorem dX10_message_31 : decode cX10_message 31 = .ok (.goto 6, 3) := by decide +kernel
theorem dX10_message_34 : decode cX10_message 34 = .ok (.sipush (-1009), 3) := by decide +kernel
theorem dX10_message_37 : decode cX10_message 37 = .ok (.ireturn, 1) := by decide +kernel
theorem dX10_strip_0 : decode cX10_strip 0 = .ok (.aload_n 0, 1) := by decide +kernel
theorem dX10_strip_1 : decode cX10_strip 1 = .ok (.iload_n 1, 1) := by decide +kernel
theorem dX10_strip_2 : decode cX10_strip 2 = .ok (.invokevirtual 110, 3) := by decide +kernel
theorem dX10_strip_5 : decode cX10_strip 5 = .ok (.ifCond .eq 11, 3) := by decide +kernel
theorem dX10_strip_8 : decode cX10_strip 8 = .ok (.aload_n 0, 1) := by decide +kernel
theorem dX10_strip_9 : decode cX10_strip 9 = .ok (.iload_n 1, 1) := by decide +kernel
theorem dX10_strip_10 : decode cX10_strip 10 = .ok (.invokevirtual 65, 3) := by decide +kernel
theorem dX10_strip_13 : decode cX10_strip 13 = .ok (.goto 6, 3) := by decide +kernel
theorem dX10_strip_16 : decode cX10_strip 16 = .ok (.sipush (-1001), 3) := by decide +kernel
theorem dX10_strip_19 : decode cX10_strip 19 = .ok (.ireturn, 1) := by decide +kernel
theorem dX10_picture_0 : decode cX10_picture 0 = .ok (.aload_n 0, 1) := by decide +kernel
theorem dX10_picture_1 : decode cX10_picture 1 = .ok (.iload_n 1, 1) := by decide +kernel
theorem dX10_picture_2 : decode cX10_picture 2 = .ok (.invokevirtual 110, 3) := by decide +kernel
theorem dX10_picture_5 : decode cX10_picture 5 = .ok (.ifCond .eq 21, 3) := by decide +kernel
theorem dX10_picture_8 : decode cX10_picture 8 = .ok (.iload_n 2, 1) := by decide +kernel
theorem dX10_picture_9 : decode cX10_picture 9 = .ok (.bipush (-2), 2) := by decide +kernel
theorem dX10_picture_11 : decode cX10_picture 11 = .ok (.iconst 2, 1) := by decide +kernel
theorem dX10_picture_12 : decode cX10_picture 12 = .ok (.invokestatic 96, 3) := by decide +kernel
theorem dX10_picture_15 : decode cX10_picture 15 = .ok (.ifCond .eq 11, 3) := by decide +kernel
theorem dX10_picture_18 : decode cX10_picture 18 = .ok (.aload_n 0, 1) := by decide +kernel
theorem dX10_picture_19 : decode cX10_picture 19 = .ok (.iload_n 3, 1) := by decide +kernel
theorem dX10_picture_20 : decode cX10_picture 20 = .ok (.invokevirtual 68, 3) := by decide +kernel
theorem dX10_picture_23 : decode cX10_picture 23 = .ok (.ifCond .ne 7, 3) := by decide +kernel
theorem dX10_picture_26 : decode cX10_picture 26 = .ok (.sipush (-1001), 3) := by decide +kernel
theorem dX10_picture_29 : decode cX10_picture 29 = .ok (.ireturn, 1) := by decide +kernel
theorem dX10_picture_30 : decode cX10_picture 30 = .ok (.aload_n 0, 1) := by decide +kernel
theorem dX10_picture_31 : decode cX10_picture 31 = .ok (.iload_n 1, 1) := by decide +kernel
theorem dX10_picture_32 : decode cX10_picture 32 = .ok (.iload_n 2, 1) := by decide +kernel
theorem dX10_picture_33 : decode cX10_picture 33 = .ok (.aload_n 0, 1) := by decide +kernel
theorem dX10_picture_34 : decode cX10_picture 34 = .ok (.getfield 25, 3) := by decide +kernel
theorem dX10_picture_37 : decode cX10_picture 37 = .ok (.invokevirtual 75, 3) := by decide +kernel
theorem dX10_picture_40 : decode cX10_picture 40 = .ok (.aload_n 0, 1) := by decide +kernel
theorem dX10_picture_41 : decode cX10_picture 41 = .ok (.getfield 25, 3) := by decide +kernel
theorem dX10_picture_44 : decode cX10_picture 44 = .ok (.iload_n 3, 1) := by decide +kernel
theorem dX10_picture_45 : decode cX10_picture 45 = .ok (.iaload, 1) := by decide +kernel
theorem dX10_picture_46 : decode cX10_picture 46 = .ok (.ireturn, 1) := by decide +kernel
theorem dX10_power_0 : decode cX10_power 0 = .ok (.iload_n 1, 1) := by decide +kernel
theorem dX10_power_1 : decode cX10_power 1 = .ok (.iconst 1, 1) := by decide +kernel
theorem dX10_power_2 : decode cX10_power 2 = .ok (.bipush 20, 2) := by decide +kernel
theorem dX10_power_4 : decode cX10_power 4 = .ok (.invokestatic 96, 3) := by decide +kernel
theorem dX10_power_7 : decode cX10_power 7 = .ok (.ifCond .ne 7, 3) := by decide +kernel
theorem dX10_power_10 : decode cX10_power 10 = .ok (.sipush (-1001), 3) := by decide +kernel
theorem dX10_power_13 : decode cX10_power 13 = .ok (.ireturn, 1) := by decide +kernel
theorem dX10_power_14 : decode cX10_power 14 = .ok (.iload_n 1, 1) := by decide +kernel
theorem dX10_power_15 : decode cX10_power 15 = .ok (.aload_n 0, 1) := by decide +kernel
theorem dX10_power_16 : decode cX10_power 16 = .ok (.getfield 7, 3) := by decide +kernel
theorem dX10_power_19 : decode cX10_power 19 = .ok (.bipush 8, 2) := by decide +kernel
theorem dX10_power_21 : decode cX10_power 21 = .ok (.iaload, 1) := by decide +kernel
theorem dX10_power_22 : decode cX10_power 22 = .ok (.if_icmp .le 9, 3) := by decide +kernel
theorem dX10_power_25 : decode cX10_power 25 = .ok (.sipush (-1009), 3) := by decide +kernel
theorem dX10_power_28 : decode cX10_power 28 = .ok (.goto 15, 3) := by decide +kernel
theorem dX10_power_31 : decode cX10_power 31 = .ok (.aload_n 0, 1) := by decide +kernel
theorem dX10_power_32 : decode cX10_power 32 = .ok (.getfield 7, 3) := by decide +kernel
theorem dX10_power_35 : decode cX10_power 35 = .ok (.sipush 709, 3) := by decide +kernel
theorem dX10_power_38 : decode cX10_power 38 = .ok (.iload_n 1, 1) := by decide +kernel
theorem dX10_power_39 : decode cX10_power 39 = .ok (.iadd, 1) := by decide +kernel
theorem dX10_power_40 : decode cX10_power 40 = .ok (.iconst 1, 1) := by decide +kernel
theorem dX10_power_41 : decode cX10_power 41 = .ok (.isub, 1) := by decide +kernel
theorem dX10_power_42 : decode cX10_power 42 = .ok (.iaload, 1) := by decide +kernel
theorem dX10_power_43 : decode cX10_power 43 = .ok (.ireturn, 1) := by decide +kernel
theorem dX10_bestShift_0 : decode cX10_bestShift 0 = .ok (.aload_n 0, 1) := by decide +kernel
theorem dX10_bestShift_1 : decode cX10_bestShift 1 = .ok (.iload_n 1, 1) := by decide +kernel
theorem dX10_bestShift_2 : decode cX10_bestShift 2 = .ok (.invokevirtual 110, 3) := by decide +kernel
theorem dX10_bestShift_5 : decode cX10_bestShift 5 = .ok (.ifCond .eq 11, 3) := by decide +kernel
theorem dX10_bestShift_8 : decode cX10_bestShift 8 = .ok (.aload_n 0, 1) := by decide +kernel
theorem dX10_bestShift_9 : decode cX10_bestShift 9 = .ok (.iload_n 1, 1) := by decide +kernel
theorem dX10_bestShift_10 : decode cX10_bestShift 10 = .ok (.invokevirtual 83, 3) := by decide +kernel
theorem dX10_bestShift_13 : decode cX10_bestShift 13 = .ok (.goto 6, 3) := by decide +kernel
theorem dX10_bestShift_16 : decode cX10_bestShift 16 = .ok (.sipush (-1001), 3) := by decide +kernel
theorem dX10_bestShift_19 : decode cX10_bestShift 19 = .ok (.ireturn, 1) := by decide +kernel
theorem dX10_due_0 : decode cX10_due 0 = .ok (.aload_n 0, 1) := by decide +kernel
theorem dX10_due_1 : decode cX10_due 1 = .ok (.iload_n 1, 1) := by decide +kernel
theorem dX10_due_2 : decode cX10_due 2 = .ok (.iload_n 2, 1) := by decide +kernel
theorem dX10_due_3 : decode cX10_due 3 = .ok (.invokevirtual 139, 3) := by decide +kernel
theorem dX10_due_6 : decode cX10_due 6 = .ok (.ifCond .ne 7, 3) := by decide +kernel
theorem dX10_due_9 : decode cX10_due 9 = .ok (.sipush (-1001), 3) := by decide +kernel
theorem dX10_due_12 : decode cX10_due 12 = .ok (.ireturn, 1) := by decide +kernel
theorem dX10_due_13 : decode cX10_due 13 = .ok (.aload_n 0, 1) := by decide +kernel
theorem dX10_due_14 : decode cX10_due 14 = .ok (.iload_n 1, 1) := by decide +kernel
theorem dX10_due_15 : decode cX10_due 15 = .ok (.aload_n 0, 1) := by decide +kernel
theorem dX10_due_16 : decode cX10_due 16 = .ok (.iload_n 1, 1) := by decide +kernel
theorem dX10_due_17 : decode cX10_due 17 = .ok (.iload_n 2, 1) := by decide +kernel
theorem dX10_due_18 : decode cX10_due 18 = .ok (.invokevirtual 136, 3) := by decide +kernel
theorem dX10_due_21 : decode cX10_due 21 = .ok (.aload_n 0, 1) := by decide +kernel
theorem dX10_due_22 : decode cX10_due 22 = .ok (.getfield 25, 3) := by decide +kernel
theorem dX10_due_25 : decode cX10_due 25 = .ok (.invokevirtual 75, 3) := by decide +kernel
theorem dX10_due_28 : decode cX10_due 28 = .ok (.aload_n 0, 1) := by decide +kernel
theorem dX10_due_29 : decode cX10_due 29 = .ok (.aload_n 0, 1) := by decide +kernel
theorem dX10_due_30 : decode cX10_due 30 = .ok (.getfield 7, 3) := by decide +kernel
theorem dX10_due_33 : decode cX10_due 33 = .ok (.bipush 9, 2) := by decide +kernel
theorem dX10_due_35 : decode cX10_due 35 = .ok (.aload_n 0, 1) := by decide +kernel
theorem dX10_due_36 : decode cX10_due 36 = .ok (.getfield 25, 3) := by decide +kernel
theorem dX10_due_39 : decode cX10_due 39 = .ok (.iconst 0, 1) := by decide +kernel
theorem dX10_due_40 : decode cX10_due 40 = .ok (.invokevirtual 79, 3) := by decide +kernel
theorem dX10_due_43 : decode cX10_due 43 = .ok (.ireturn, 1) := by decide +kernel
theorem dX10_secondsFor_0 : decode cX10_secondsFor 0 = .ok (.aload_n 0, 1) := by decide +kernel
theorem dX10_secondsFor_1 : decode cX10_secondsFor 1 = .ok (.iload_n 1, 1) := by decide +kernel
theorem dX10_secondsFor_2 : decode cX10_secondsFor 2 = .ok (.iload_n 2, 1) := by decide +kernel
theorem dX10_secondsFor_3 : decode cX10_secondsFor 3 = .ok (.invokevirtual 139, 3) := by decide +kernel
theorem dX10_secondsFor_6 : decode cX10_secondsFor 6 = .ok (.ifCond .ne 7, 3) := by decide +kernel
theorem dX10_secondsFor_9 : decode cX10_secondsFor 9 = .ok (.sipush (-1001), 3) := by decide +kernel
theorem dX10_secondsFor_12 : decode cX10_secondsFor 12 = .ok (.ireturn, 1) := by decide +kernel
theorem dX10_secondsFor_13 : decode cX10_secondsFor 13 = .ok (.aload_n 0, 1) := by decide +kernel
theorem dX10_secondsFor_14 : decode cX10_secondsFor 14 = .ok (.getfield 19, 3) := by decide +kernel
theorem dX10_secondsFor_17 : decode cX10_secondsFor 17 = .ok (.aload_n 0, 1) := by decide +kernel
theorem dX10_secondsFor_18 : decode cX10_secondsFor 18 = .ok (.getfield 7, 3) := by decide +kernel
theorem dX10_secondsFor_21 : decode cX10_secondsFor 21 = .ok (.invokestatic 46, 3) := by decide +kernel
theorem dX10_secondsFor_24 : decode cX10_secondsFor 24 = .ok (.aload_n 0, 1) := by decide +kernel
theorem dX10_secondsFor_25 : decode cX10_secondsFor 25 = .ok (.iload_n 1, 1) := by decide +kernel
theorem dX10_secondsFor_26 : decode cX10_secondsFor 26 = .ok (.iload_n 2, 1) := by decide +kernel
theorem dX10_secondsFor_27 : decode cX10_secondsFor 27 = .ok (.invokevirtual 142, 3) := by decide +kernel
theorem dX10_secondsFor_30 : decode cX10_secondsFor 30 = .ok (.iconst 0, 1) := by decide +kernel
theorem dX10_secondsFor_31 : decode cX10_secondsFor 31 = .ok (.istore_n 3, 1) := by decide +kernel
theorem dX10_secondsFor_32 : decode cX10_secondsFor 32 = .ok (.iload_n 3, 1) := by decide +kernel
theorem dX10_secondsFor_33 : decode cX10_secondsFor 33 = .ok (.sipush 300, 3) := by decide +kernel
theorem dX10_secondsFor_36 : decode cX10_secondsFor 36 = .ok (.if_icmp .ge 20, 3) := by decide +kernel
theorem dX10_secondsFor_39 : decode cX10_secondsFor 39 = .ok (.aload_n 0, 1) := by decide +kernel
theorem dX10_secondsFor_40 : decode cX10_secondsFor 40 = .ok (.invokevirtual 145, 3) := by decide +kernel
theorem dX10_secondsFor_43 : decode cX10_secondsFor 43 = .ok (.ifCond .le 13, 3) := by decide +kernel
theorem dX10_secondsFor_46 : decode cX10_secondsFor 46 = .ok (.aload_n 0, 1) := by decide +kernel
theorem dX10_secondsFor_47 : decode cX10_secondsFor 47 = .ok (.invokevirtual 151, 3) := by decide +kernel
theorem dX10_secondsFor_50 : decode cX10_secondsFor 50 = .ok (.iinc 3 1, 3) := by decide +kernel
theorem dX10_secondsFor_53 : decode cX10_secondsFor 53 = .ok (.goto (-21), 3) := by decide +kernel
theorem dX10_secondsFor_56 : decode cX10_secondsFor 56 = .ok (.aload_n 0, 1) := by decide +kernel
theorem dX10_secondsFor_57 : decode cX10_secondsFor 57 = .ok (.invokevirtual 145, 3) := by decide +kernel
theorem dX10_secondsFor_60 : decode cX10_secondsFor 60 = .ok (.ifCond .ne 7, 3) := by decide +kernel
theorem dX10_secondsFor_63 : decode cX10_secondsFor 63 = .ok (.iconst 1, 1) := by decide +kernel
theorem dX10_secondsFor_64 : decode cX10_secondsFor 64 = .ok (.goto 4, 3) := by decide +kernel
theorem dX10_secondsFor_67 : decode cX10_secondsFor 67 = .ok (.iconst 0, 1) := by decide +kernel
theorem dX10_secondsFor_68 : decode cX10_secondsFor 68 = .ok (.istore 4, 2) := by decide +kernel
theorem dX10_secondsFor_70 : decode cX10_secondsFor 70 = .ok (.aload_n 0, 1) := by decide +kernel
theorem dX10_secondsFor_71 : decode cX10_secondsFor 71 = .ok (.getfield 7, 3) := by decide +kernel
theorem dX10_secondsFor_74 : decode cX10_secondsFor 74 = .ok (.aload_n 0, 1) := by decide +kernel
theorem dX10_secondsFor_75 : decode cX10_secondsFor 75 = .ok (.getfield 19, 3) := by decide +kernel
theorem dX10_secondsFor_78 : decode cX10_secondsFor 78 = .ok (.invokestatic 46, 3) := by decide +kernel
theorem dX10_secondsFor_81 : decode cX10_secondsFor 81 = .ok (.iload 4, 2) := by decide +kernel
theorem dX10_secondsFor_83 : decode cX10_secondsFor 83 = .ok (.ifCond .eq 7, 3) := by decide +kernel
theorem dX10_secondsFor_86 : decode cX10_secondsFor 86 = .ok (.iload_n 3, 1) := by decide +kernel
theorem dX10_secondsFor_87 : decode cX10_secondsFor 87 = .ok (.goto 6, 3) := by decide +kernel
theorem dX10_secondsFor_90 : decode cX10_secondsFor 90 = .ok (.sipush (-1009), 3) := by decide +kernel
theorem dX10_secondsFor_93 : decode cX10_secondsFor 93 = .ok (.ireturn, 1) := by decide +kernel
theorem dX10_betweenOf_0 : decode cX10_betweenOf 0 = .ok (.aload_n 0, 1) := by decide +kernel
theorem dX10_betweenOf_1 : decode cX10_betweenOf 1 = .ok (.iload_n 1, 1) := by decide +kernel
theorem dX10_betweenOf_2 : decode cX10_betweenOf 2 = .ok (.iconst 0, 1) := by decide +kernel
theorem dX10_betweenOf_3 : decode cX10_betweenOf 3 = .ok (.aload_n 0, 1) := by decide +kernel
theorem dX10_betweenOf_4 : decode cX10_betweenOf 4 = .ok (.getfield 28, 3) := by decide +kernel
theorem dX10_betweenOf_7 : decode cX10_betweenOf 7 = .ok (.invokevirtual 75, 3) := by decide +kernel
theorem dX10_betweenOf_10 : decode cX10_betweenOf 10 = .ok (.aload_n 0, 1) := by decide +kernel
theorem dX10_betweenOf_11 : decode cX10_betweenOf 11 = .ok (.iload_n 2, 1) := by decide +kernel
theorem dX10_betweenOf_12 : decode cX10_betweenOf 12 = .ok (.iconst 0, 1) := by decide +kernel
theorem dX10_betweenOf_13 : decode cX10_betweenOf 13 = .ok (.aload_n 0, 1) := by decide +kernel
theorem dX10_betweenOf_14 : decode cX10_betweenOf 14 = .ok (.getfield 25, 3) := by decide +kernel
theorem dX10_betweenOf_17 : decode cX10_betweenOf 17 = .ok (.invokevirtual 75, 3) := by decide +kernel
theorem dX10_betweenOf_20 : decode cX10_betweenOf 20 = .ok (.aload_n 0, 1) := by decide +kernel
theorem dX10_betweenOf_21 : decode cX10_betweenOf 21 = .ok (.aload_n 0, 1) := by decide +kernel
theorem dX10_betweenOf_22 : decode cX10_betweenOf 22 = .ok (.getfield 28, 3) := by decide +kernel
theorem dX10_betweenOf_25 : decode cX10_betweenOf 25 = .ok (.iconst 0, 1) := by decide +kernel
theorem dX10_betweenOf_26 : decode cX10_betweenOf 26 = .ok (.aload_n 0, 1) := by decide +kernel
theorem dX10_betweenOf_27 : decode cX10_betweenOf 27 = .ok (.getfield 25, 3) := by decide +kernel
theorem dX10_betweenOf_30 : decode cX10_betweenOf 30 = .ok (.iconst 0, 1) := by decide +kernel
theorem dX10_betweenOf_31 : decode cX10_betweenOf 31 = .ok (.invokevirtual 79, 3) := by decide +kernel
theorem dX10_betweenOf_34 : decode cX10_betweenOf 34 = .ok (.ireturn, 1) := by decide +kernel
theorem dX10_between_0 : decode cX10_between 0 = .ok (.aload_n 0, 1) := by decide +kernel
theorem dX10_between_1 : decode cX10_between 1 = .ok (.iload_n 1, 1) := by decide +kernel
theorem dX10_between_2 : decode cX10_between 2 = .ok (.invokevirtual 110, 3) := by decide +kernel
theorem dX10_between_5 : decode cX10_between 5 = .ok (.ifCond .eq 20, 3) := by decide +kernel
theorem dX10_between_8 : decode cX10_between 8 = .ok (.aload_n 0, 1) := by decide +kernel
theorem dX10_between_9 : decode cX10_between 9 = .ok (.iload_n 2, 1) := by decide +kernel
theorem dX10_between_10 : decode cX10_between 10 = .ok (.invokevirtual 110, 3) := by decide +kernel
theorem dX10_between_13 : decode cX10_between 13 = .ok (.ifCond .eq 12, 3) := by decide +kernel
theorem dX10_between_16 : decode cX10_between 16 = .ok (.aload_n 0, 1) := by decide +kernel
theorem dX10_between_17 : decode cX10_between 17 = .ok (.iload_n 1, 1) := by decide +kernel
theorem dX10_between_18 : decode cX10_between 18 = .ok (.iload_n 2, 1) := by decide +kernel
theorem dX10_between_19 : decode cX10_between 19 = .ok (.invokevirtual 160, 3) := by decide +kernel
theorem dX10_between_22 : decode cX10_between 22 = .ok (.goto 6, 3) := by decide +kernel
theorem dX10_between_25 : decode cX10_between 25 = .ok (.sipush (-1001), 3) := by decide +kernel
theorem dX10_between_28 : decode cX10_between 28 = .ok (.ireturn, 1) := by decide +kernel
theorem dX10_flipsFor_0 : decode cX10_flipsFor 0 = .ok (.aload_n 0, 1) := by decide +kernel
theorem dX10_flipsFor_1 : decode cX10_flipsFor 1 = .ok (.getfield 40, 3) := by decide +kernel
theorem dX10_flipsFor_4 : decode cX10_flipsFor 4 = .ok (.aload_n 0, 1) := by decide +kernel
theorem dX10_flipsFor_5 : decode cX10_flipsFor 5 = .ok (.getfield 34, 3) := by decide +kernel
theorem dX10_flipsFor_8 : decode cX10_flipsFor 8 = .ok (.iconst 0, 1) := by decide +kernel
theorem dX10_flipsFor_9 : decode cX10_flipsFor 9 = .ok (.iaload, 1) := by decide +kernel
theorem dX10_flipsFor_10 : decode cX10_flipsFor 10 = .ok (.iaload, 1) := by decide +kernel
theorem dX10_flipsFor_11 : decode cX10_flipsFor 11 = .ok (.istore_n 1, 1) := by decide +kernel
theorem dX10_flipsFor_12 : decode cX10_flipsFor 12 = .ok (.iconst 1, 1) := by decide +kernel
theorem dX10_flipsFor_13 : decode cX10_flipsFor 13 = .ok (.istore_n 2, 1) := by decide +kernel
theorem dX10_flipsFor_14 : decode cX10_flipsFor 14 = .ok (.iload_n 2, 1) := by decide +kernel
theorem dX10_flipsFor_15 : decode cX10_flipsFor 15 = .ok (.aload_n 0, 1) := by decide +kernel
theorem dX10_flipsFor_16 : decode cX10_flipsFor 16 = .ok (.getfield 163, 3) := by decide +kernel
theorem dX10_flipsFor_19 : decode cX10_flipsFor 19 = .ok (.if_icmp .ge 35, 3) := by decide +kernel
theorem dX10_flipsFor_22 : decode cX10_flipsFor 22 = .ok (.iload_n 1, 1) := by decide +kernel
theorem dX10_flipsFor_23 : decode cX10_flipsFor 23 = .ok (.aload_n 0, 1) := by decide +kernel
theorem dX10_flipsFor_24 : decode cX10_flipsFor 24 = .ok (.getfield 43, 3) := by decide +kernel
theorem dX10_flipsFor_27 : decode cX10_flipsFor 27 = .ok (.bipush 8, 2) := by decide +kernel
theorem dX10_flipsFor_29 : decode cX10_flipsFor 29 = .ok (.aload_n 0, 1) := by decide +kernel
theorem dX10_flipsFor_30 : decode cX10_flipsFor 30 = .ok (.getfield 34, 3) := by decide +kernel
theorem dX10_flipsFor_33 : decode cX10_flipsFor 33 = .ok (.iload_n 2, 1) := by decide +kernel
theorem dX10_flipsFor_34 : decode cX10_flipsFor 34 = .ok (.iconst 1, 1) := by decide +kernel
theorem dX10_flipsFor_35 : decode cX10_flipsFor 35 = .ok (.isub, 1) := by decide +kernel
theorem dX10_flipsFor_36 : decode cX10_flipsFor 36 = .ok (.iaload, 1) := by decide +kernel
theorem dX10_flipsFor_37 : decode cX10_flipsFor 37 = .ok (.imul, 1) := by decide +kernel
theorem dX10_flipsFor_38 : decode cX10_flipsFor 38 = .ok (.aload_n 0, 1) := by decide +kernel
theorem dX10_flipsFor_39 : decode cX10_flipsFor 39 = .ok (.getfield 34, 3) := by decide +kernel
theorem dX10_flipsFor_42 : decode cX10_flipsFor 42 = .ok (.iload_n 2, 1) := by decide +kernel
theorem dX10_flipsFor_43 : decode cX10_flipsFor 43 = .ok (.iaload, 1) := by decide +kernel
theorem dX10_flipsFor_44 : decode cX10_flipsFor 44 = .ok (.iadd, 1) := by decide +kernel
theorem dX10_flipsFor_45 : decode cX10_flipsFor 45 = .ok (.iaload, 1) := by decide +kernel
theorem dX10_flipsFor_46 : decode cX10_flipsFor 46 = .ok (.iadd, 1) := by decide +kernel
theorem dX10_flipsFor_47 : decode cX10_flipsFor 47 = .ok (.istore_n 1, 1) := by decide +kernel
theorem dX10_flipsFor_48 : decode cX10_flipsFor 48 = .ok (.iinc 2 1, 3) := by decide +kernel
theorem dX10_flipsFor_51 : decode cX10_flipsFor 51 = .ok (.goto (-37), 3) := by decide +kernel
theorem dX10_flipsFor_54 : decode cX10_flipsFor 54 = .ok (.iload_n 1, 1) := by decide +kernel
theorem dX10_flipsFor_55 : decode cX10_flipsFor 55 = .ok (.ireturn, 1) := by decide +kernel
theorem dX10_swaps_0 : decode cX10_swaps 0 = .ok (.aload_n 0, 1) := by decide +kernel
theorem dX10_swaps_1 : decode cX10_swaps 1 = .ok (.getfield 34, 3) := by decide +kernel
theorem dX10_swaps_4 : decode cX10_swaps 4 = .ok (.iload_n 1, 1) := by decide +kernel
theorem dX10_swaps_5 : decode cX10_swaps 5 = .ok (.iaload, 1) := by decide +kernel
theorem dX10_swaps_6 : decode cX10_swaps 6 = .ok (.istore_n 3, 1) := by decide +kernel
theorem dX10_swaps_7 : decode cX10_swaps 7 = .ok (.aload_n 0, 1) := by decide +kernel
theorem dX10_swaps_8 : decode cX10_swaps 8 = .ok (.getfield 34, 3) := by decide +kernel
theorem dX10_swaps_11 : decode cX10_swaps 11 = .ok (.iload_n 1, 1) := by decide +kernel
theorem dX10_swaps_12 : decode cX10_swaps 12 = .ok (.aload_n 0, 1) := by decide +kernel
theorem dX10_swaps_13 : decode cX10_swaps 13 = .ok (.getfield 34, 3) := by decide +kernel
theorem dX10_swaps_16 : decode cX10_swaps 16 = .ok (.iload_n 2, 1) := by decide +kernel
theorem dX10_swaps_17 : decode cX10_swaps 17 = .ok (.iaload, 1) := by decide +kernel
theorem dX10_swaps_18 : decode cX10_swaps 18 = .ok (.iastore, 1) := by decide +kernel
theorem dX10_swaps_19 : decode cX10_swaps 19 = .ok (.aload_n 0, 1) := by decide +kernel
theorem dX10_swaps_20 : decode cX10_swaps 20 = .ok (.getfield 34, 3) := by decide +kernel
theorem dX10_swaps_23 : decode cX10_swaps 23 = .ok (.iload_n 2, 1) := by decide +kernel
theorem dX10_swaps_24 : decode cX10_swaps 24 = .ok (.iload_n 3, 1) := by decide +kernel
theorem dX10_swaps_25 : decode cX10_swaps 25 = .ok (.iastore, 1) := by decide +kernel
theorem dX10_swaps_26 : decode cX10_swaps 26 = .ok (.return_, 1) := by decide +kernel
theorem dX10_goesOn_0 : decode cX10_goesOn 0 = .ok (.aload_n 0, 1) := by decide +kernel
theorem dX10_goesOn_1 : decode cX10_goesOn 1 = .ok (.getfield 163, 3) := by decide +kernel
theorem dX10_goesOn_4 : decode cX10_goesOn 4 = .ok (.iconst 2, 1) := by decide +kernel
theorem dX10_goesOn_5 : decode cX10_goesOn 5 = .ok (.isub, 1) := by decide +kernel
theorem dX10_goesOn_6 : decode cX10_goesOn 6 = .ok (.istore_n 1, 1) := by decide +kernel
theorem dX10_goesOn_7 : decode cX10_goesOn 7 = .ok (.iload_n 1, 1) := by decide +kernel
theorem dX10_goesOn_8 : decode cX10_goesOn 8 = .ok (.ifCond .lt 26, 3) := by decide +kernel
theorem dX10_goesOn_11 : decode cX10_goesOn 11 = .ok (.aload_n 0, 1) := by decide +kernel
theorem dX10_goesOn_12 : decode cX10_goesOn 12 = .ok (.getfield 34, 3) := by decide +kernel
theorem dX10_goesOn_15 : decode cX10_goesOn 15 = .ok (.iload_n 1, 1) := by decide +kernel
theorem dX10_goesOn_16 : decode cX10_goesOn 16 = .ok (.iaload, 1) := by decide +kernel
theorem dX10_goesOn_17 : decode cX10_goesOn 17 = .ok (.aload_n 0, 1) := by decide +kernel
theorem dX10_goesOn_18 : decode cX10_goesOn 18 = .ok (.getfield 34, 3) := by decide +kernel
theorem dX10_goesOn_21 : decode cX10_goesOn 21 = .ok (.iload_n 1, 1) := by decide +kernel
theorem dX10_goesOn_22 : decode cX10_goesOn 22 = .ok (.iconst 1, 1) := by decide +kernel
theorem dX10_goesOn_23 : decode cX10_goesOn 23 = .ok (.iadd, 1) := by decide +kernel
theorem dX10_goesOn_24 : decode cX10_goesOn 24 = .ok (.iaload, 1) := by decide +kernel
theorem dX10_goesOn_25 : decode cX10_goesOn 25 = .ok (.if_icmp .le 9, 3) := by decide +kernel
theorem dX10_goesOn_28 : decode cX10_goesOn 28 = .ok (.iinc 1 (-1), 3) := by decide +kernel
theorem dX10_goesOn_31 : decode cX10_goesOn 31 = .ok (.goto (-24), 3) := by decide +kernel
theorem dX10_goesOn_34 : decode cX10_goesOn 34 = .ok (.iload_n 1, 1) := by decide +kernel
theorem dX10_goesOn_35 : decode cX10_goesOn 35 = .ok (.ifCond .ge 5, 3) := by decide +kernel
theorem dX10_goesOn_38 : decode cX10_goesOn 38 = .ok (.iconst 0, 1) := by decide +kernel
theorem dX10_goesOn_39 : decode cX10_goesOn 39 = .ok (.ireturn, 1) := by decide +kernel
theorem dX10_goesOn_40 : decode cX10_goesOn 40 = .ok (.aload_n 0, 1) := by decide +kernel
theorem dX10_goesOn_41 : decode cX10_goesOn 41 = .ok (.getfield 163, 3) := by decide +kernel
theorem dX10_goesOn_44 : decode cX10_goesOn 44 = .ok (.iconst 1, 1) := by decide +kernel
theorem dX10_goesOn_45 : decode cX10_goesOn 45 = .ok (.isub, 1) := by decide +kernel
theorem dX10_goesOn_46 : decode cX10_goesOn 46 = .ok (.istore_n 2, 1) := by decide +kernel
theorem dX10_goesOn_47 : decode cX10_goesOn 47 = .ok (.aload_n 0, 1) := by decide +kernel
theorem dX10_goesOn_48 : decode cX10_goesOn 48 = .ok (.getfield 34, 3) := by decide +kernel
theorem dX10_goesOn_51 : decode cX10_goesOn 51 = .ok (.iload_n 2, 1) := by decide +kernel
theorem dX10_goesOn_52 : decode cX10_goesOn 52 = .ok (.iaload, 1) := by decide +kernel
theorem dX10_goesOn_53 : decode cX10_goesOn 53 = .ok (.aload_n 0, 1) := by decide +kernel
theorem dX10_goesOn_54 : decode cX10_goesOn 54 = .ok (.getfield 34, 3) := by decide +kernel
theorem dX10_goesOn_57 : decode cX10_goesOn 57 = .ok (.iload_n 1, 1) := by decide +kernel
theorem dX10_goesOn_58 : decode cX10_goesOn 58 = .ok (.iaload, 1) := by decide +kernel
theorem dX10_goesOn_59 : decode cX10_goesOn 59 = .ok (.if_icmp .ge 9, 3) := by decide +kernel
theorem dX10_goesOn_62 : decode cX10_goesOn 62 = .ok (.iinc 2 (-1), 3) := by decide +kernel
theorem dX10_goesOn_65 : decode cX10_goesOn 65 = .ok (.goto (-18), 3) := by decide +kernel
theorem dX10_goesOn_68 : decode cX10_goesOn 68 = .ok (.aload_n 0, 1) := by decide +kernel
theorem dX10_goesOn_69 : decode cX10_goesOn 69 = .ok (.iload_n 1, 1) := by decide +kernel
theorem dX10_goesOn_70 : decode cX10_goesOn 70 = .ok (.iload_n 2, 1) := by decide +kernel
theorem dX10_goesOn_71 : decode cX10_goesOn 71 = .ok (.invokevirtual 166, 3) := by decide +kernel
theorem dX10_goesOn_74 : decode cX10_goesOn 74 = .ok (.iload_n 1, 1) := by decide +kernel
theorem dX10_goesOn_75 : decode cX10_goesOn 75 = .ok (.iconst 1, 1) := by decide +kernel
theorem dX10_goesOn_76 : decode cX10_goesOn 76 = .ok (.iadd, 1) := by decide +kernel
theorem dX10_goesOn_77 : decode cX10_goesOn 77 = .ok (.istore_n 3, 1) := by decide +kernel
theorem dX10_goesOn_78 : decode cX10_goesOn 78 = .ok (.aload_n 0, 1) := by decide +kernel
theorem dX10_goesOn_79 : decode cX10_goesOn 79 = .ok (.getfield 163, 3) := by decide +kernel
theorem dX10_goesOn_82 : decode cX10_goesOn 82 = .ok (.iconst 1, 1) := by decide +kernel
theorem dX10_goesOn_83 : decode cX10_goesOn 83 = .ok (.isub, 1) := by decide +kernel
theorem dX10_goesOn_84 : decode cX10_goesOn 84 = .ok (.istore 4, 2) := by decide +kernel
theorem dX10_goesOn_86 : decode cX10_goesOn 86 = .ok (.iload_n 3, 1) := by decide +kernel
theorem dX10_goesOn_87 : decode cX10_goesOn 87 = .ok (.iload 4, 2) := by decide +kernel
theorem dX10_goesOn_89 : decode cX10_goesOn 89 = .ok (.if_icmp .ge 19, 3) := by decide +kernel
theorem dX10_goesOn_92 : decode cX10_goesOn 92 = .ok (.aload_n 0, 1) := by decide +kernel
theorem dX10_goesOn_93 : decode cX10_goesOn 93 = .ok (.iload_n 3, 1) := by decide +kernel
theorem dX10_goesOn_94 : decode cX10_goesOn 94 = .ok (.iload 4, 2) := by decide +kernel
theorem dX10_goesOn_96 : decode cX10_goesOn 96 = .ok (.invokevirtual 166, 3) := by decide +kernel
theorem dX10_goesOn_99 : decode cX10_goesOn 99 = .ok (.iinc 3 1, 3) := by decide +kernel
theorem dX10_goesOn_102 : decode cX10_goesOn 102 = .ok (.iinc 4 (-1), 3) := by decide +kernel
theorem dX10_goesOn_105 : decode cX10_goesOn 105 = .ok (.goto (-19), 3) := by decide +kernel
theorem dX10_goesOn_108 : decode cX10_goesOn 108 = .ok (.iconst 1, 1) := by decide +kernel
theorem dX10_goesOn_109 : decode cX10_goesOn 109 = .ok (.ireturn, 1) := by decide +kernel
theorem dX10_laysFlips_0 : decode cX10_laysFlips 0 = .ok (.iconst 0, 1) := by decide +kernel
theorem dX10_laysFlips_1 : decode cX10_laysFlips 1 = .ok (.istore_n 1, 1) := by decide +kernel
theorem dX10_laysFlips_2 : decode cX10_laysFlips 2 = .ok (.iload_n 1, 1) := by decide +kernel
theorem dX10_laysFlips_3 : decode cX10_laysFlips 3 = .ok (.aload_n 0, 1) := by decide +kernel
theorem dX10_laysFlips_4 : decode cX10_laysFlips 4 = .ok (.getfield 7, 3) := by decide +kernel
theorem dX10_laysFlips_7 : decode cX10_laysFlips 7 = .ok (.iconst 4, 1) := by decide +kernel
theorem dX10_laysFlips_8 : decode cX10_laysFlips 8 = .ok (.iaload, 1) := by decide +kernel
theorem dX10_laysFlips_9 : decode cX10_laysFlips 9 = .ok (.if_icmp .ge 75, 3) := by decide +kernel
theorem dX10_laysFlips_12 : decode cX10_laysFlips 12 = .ok (.aload_n 0, 1) := by decide +kernel
theorem dX10_laysFlips_13 : decode cX10_laysFlips 13 = .ok (.iload_n 1, 1) := by decide +kernel
theorem dX10_laysFlips_14 : decode cX10_laysFlips 14 = .ok (.iconst 0, 1) := by decide +kernel
theorem dX10_laysFlips_15 : decode cX10_laysFlips 15 = .ok (.aload_n 0, 1) := by decide +kernel
theorem dX10_laysFlips_16 : decode cX10_laysFlips 16 = .ok (.getfield 25, 3) := by decide +kernel
theorem dX10_laysFlips_19 : decode cX10_laysFlips 19 = .ok (.invokevirtual 75, 3) := by decide +kernel
theorem dX10_laysFlips_22 : decode cX10_laysFlips 22 = .ok (.aload_n 0, 1) := by decide +kernel
theorem dX10_laysFlips_23 : decode cX10_laysFlips 23 = .ok (.getfield 40, 3) := by decide +kernel
theorem dX10_laysFlips_26 : decode cX10_laysFlips 26 = .ok (.iload_n 1, 1) := by decide +kernel
theorem dX10_laysFlips_27 : decode cX10_laysFlips 27 = .ok (.aload_n 0, 1) := by decide +kernel
theorem dX10_laysFlips_28 : decode cX10_laysFlips 28 = .ok (.aload_n 0, 1) := by decide +kernel
theorem dX10_laysFlips_29 : decode cX10_laysFlips 29 = .ok (.getfield 7, 3) := by decide +kernel
theorem dX10_laysFlips_32 : decode cX10_laysFlips 32 = .ok (.bipush 9, 2) := by decide +kernel
theorem dX10_laysFlips_34 : decode cX10_laysFlips 34 = .ok (.aload_n 0, 1) := by decide +kernel
theorem dX10_laysFlips_35 : decode cX10_laysFlips 35 = .ok (.getfield 25, 3) := by decide +kernel
theorem dX10_laysFlips_38 : decode cX10_laysFlips 38 = .ok (.iconst 0, 1) := by decide +kernel
theorem dX10_laysFlips_39 : decode cX10_laysFlips 39 = .ok (.invokevirtual 79, 3) := by decide +kernel
theorem dX10_laysFlips_42 : decode cX10_laysFlips 42 = .ok (.iastore, 1) := by decide +kernel
theorem dX10_laysFlips_43 : decode cX10_laysFlips 43 = .ok (.iconst 0, 1) := by decide +kernel
theorem dX10_laysFlips_44 : decode cX10_laysFlips 44 = .ok (.istore_n 2, 1) := by decide +kernel
theorem dX10_laysFlips_45 : decode cX10_laysFlips 45 = .ok (.iload_n 2, 1) := by decide +kernel
theorem dX10_laysFlips_46 : decode cX10_laysFlips 46 = .ok (.aload_n 0, 1) := by decide +kernel
theorem dX10_laysFlips_47 : decode cX10_laysFlips 47 = .ok (.getfield 7, 3) := by decide +kernel
theorem dX10_laysFlips_50 : decode cX10_laysFlips 50 = .ok (.iconst 4, 1) := by decide +kernel
theorem dX10_laysFlips_51 : decode cX10_laysFlips 51 = .ok (.iaload, 1) := by decide +kernel
theorem dX10_laysFlips_52 : decode cX10_laysFlips 52 = .ok (.if_icmp .ge 26, 3) := by decide +kernel
theorem dX10_laysFlips_55 : decode cX10_laysFlips 55 = .ok (.aload_n 0, 1) := by decide +kernel
theorem dX10_laysFlips_56 : decode cX10_laysFlips 56 = .ok (.getfield 43, 3) := by decide +kernel
theorem dX10_laysFlips_59 : decode cX10_laysFlips 59 = .ok (.bipush 8, 2) := by decide +kernel
theorem dX10_laysFlips_61 : decode cX10_laysFlips 61 = .ok (.iload_n 1, 1) := by decide +kernel
theorem dX10_laysFlips_62 : decode cX10_laysFlips 62 = .ok (.imul, 1) := by decide +kernel
theorem dX10_laysFlips_63 : decode cX10_laysFlips 63 = .ok (.iload_n 2, 1) := by decide +kernel
theorem dX10_laysFlips_64 : decode cX10_laysFlips 64 = .ok (.iadd, 1) := by decide +kernel
theorem dX10_laysFlips_65 : decode cX10_laysFlips 65 = .ok (.aload_n 0, 1) := by decide +kernel
theorem dX10_laysFlips_66 : decode cX10_laysFlips 66 = .ok (.iload_n 1, 1) := by decide +kernel
theorem dX10_laysFlips_67 : decode cX10_laysFlips 67 = .ok (.iload_n 2, 1) := by decide +kernel
theorem dX10_laysFlips_68 : decode cX10_laysFlips 68 = .ok (.invokevirtual 160, 3) := by decide +kernel
theorem dX10_laysFlips_71 : decode cX10_laysFlips 71 = .ok (.iastore, 1) := by decide +kernel
theorem dX10_laysFlips_72 : decode cX10_laysFlips 72 = .ok (.iinc 2 1, 3) := by decide +kernel
theorem dX10_laysFlips_75 : decode cX10_laysFlips 75 = .ok (.goto (-30), 3) := by decide +kernel
theorem dX10_laysFlips_78 : decode cX10_laysFlips 78 = .ok (.iinc 1 1, 3) := by decide +kernel
theorem dX10_laysFlips_81 : decode cX10_laysFlips 81 = .ok (.goto (-79), 3) := by decide +kernel
theorem dX10_laysFlips_84 : decode cX10_laysFlips 84 = .ok (.return_, 1) := by decide +kernel
theorem dX10_bestOrder_0 : decode cX10_bestOrder 0 = .ok (.iload_n 1, 1) := by decide +kernel
theorem dX10_bestOrder_1 : decode cX10_bestOrder 1 = .ok (.ifCond .le 32, 3) := by decide +kernel
theorem dX10_bestOrder_4 : decode cX10_bestOrder 4 = .ok (.iload_n 1, 1) := by decide +kernel
theorem dX10_bestOrder_5 : decode cX10_bestOrder 5 = .ok (.iconst 1, 1) := by decide +kernel
theorem dX10_bestOrder_6 : decode cX10_bestOrder 6 = .ok (.aload_n 0, 1) := by decide +kernel
theorem dX10_bestOrder_7 : decode cX10_bestOrder 7 = .ok (.getfield 7, 3) := by decide +kernel
theorem dX10_bestOrder_10 : decode cX10_bestOrder 10 = .ok (.iconst 4, 1) := by decide +kernel
theorem dX10_bestOrder_11 : decode cX10_bestOrder 11 = .ok (.iaload, 1) := by decide +kernel
theorem dX10_bestOrder_12 : decode cX10_bestOrder 12 = .ok (.ishl, 1) := by decide +kernel
theorem dX10_bestOrder_13 : decode cX10_bestOrder 13 = .ok (.if_icmp .ge 20, 3) := by decide +kernel
theorem dX10_bestOrder_16 : decode cX10_bestOrder 16 = .ok (.iload_n 1, 1) := by decide +kernel
theorem dX10_bestOrder_17 : decode cX10_bestOrder 17 = .ok (.invokestatic 72, 3) := by decide +kernel
theorem dX10_bestOrder_20 : decode cX10_bestOrder 20 = .ok (.iconst 5, 1) := by decide +kernel
theorem dX10_bestOrder_21 : decode cX10_bestOrder 21 = .ok (.if_icmp .gt 12, 3) := by decide +kernel
theorem dX10_bestOrder_24 : decode cX10_bestOrder 24 = .ok (.iload_n 2, 1) := by decide +kernel
theorem dX10_bestOrder_25 : decode cX10_bestOrder 25 = .ok (.iconst 0, 1) := by decide +kernel
theorem dX10_bestOrder_26 : decode cX10_bestOrder 26 = .ok (.iconst 5, 1) := by decide +kernel
theorem dX10_bestOrder_27 : decode cX10_bestOrder 27 = .ok (.invokestatic 96, 3) := by decide +kernel
theorem dX10_bestOrder_30 : decode cX10_bestOrder 30 = .ok (.ifCond .ne 7, 3) := by decide +kernel
theorem dX10_bestOrder_33 : decode cX10_bestOrder 33 = .ok (.sipush (-1001), 3) := by decide +kernel
theorem dX10_bestOrder_36 : decode cX10_bestOrder 36 = .ok (.ireturn, 1) := by decide +kernel
theorem dX10_bestOrder_37 : decode cX10_bestOrder 37 = .ok (.aload_n 0, 1) := by decide +kernel
theorem dX10_bestOrder_38 : decode cX10_bestOrder 38 = .ok (.iconst 0, 1) := by decide +kernel
theorem dX10_bestOrder_39 : decode cX10_bestOrder 39 = .ok (.putfield 163, 3) := by decide +kernel
theorem dX10_bestOrder_42 : decode cX10_bestOrder 42 = .ok (.iconst 0, 1) := by decide +kernel
theorem dX10_bestOrder_43 : decode cX10_bestOrder 43 = .ok (.istore_n 3, 1) := by decide +kernel
theorem dX10_bestOrder_44 : decode cX10_bestOrder 44 = .ok (.iload_n 3, 1) := by decide +kernel
theorem dX10_bestOrder_45 : decode cX10_bestOrder 45 = .ok (.aload_n 0, 1) := by decide +kernel
theorem dX10_bestOrder_46 : decode cX10_bestOrder 46 = .ok (.getfield 7, 3) := by decide +kernel
theorem dX10_bestOrder_49 : decode cX10_bestOrder 49 = .ok (.iconst 4, 1) := by decide +kernel
theorem dX10_bestOrder_50 : decode cX10_bestOrder 50 = .ok (.iaload, 1) := by decide +kernel
theorem dX10_bestOrder_51 : decode cX10_bestOrder 51 = .ok (.if_icmp .ge 38, 3) := by decide +kernel
theorem dX10_bestOrder_54 : decode cX10_bestOrder 54 = .ok (.iload_n 1, 1) := by decide +kernel
theorem dX10_bestOrder_55 : decode cX10_bestOrder 55 = .ok (.iload_n 3, 1) := by decide +kernel
theorem dX10_bestOrder_56 : decode cX10_bestOrder 56 = .ok (.ishr, 1) := by decide +kernel
theorem dX10_bestOrder_57 : decode cX10_bestOrder 57 = .ok (.iconst 1, 1) := by decide +kernel
theorem dX10_bestOrder_58 : decode cX10_bestOrder 58 = .ok (.iand, 1) := by decide +kernel
theorem dX10_bestOrder_59 : decode cX10_bestOrder 59 = .ok (.iconst 1, 1) := by decide +kernel
theorem dX10_bestOrder_60 : decode cX10_bestOrder 60 = .ok (.if_icmp .ne 23, 3) := by decide +kernel
theorem dX10_bestOrder_63 : decode cX10_bestOrder 63 = .ok (.aload_n 0, 1) := by decide +kernel
theorem dX10_bestOrder_64 : decode cX10_bestOrder 64 = .ok (.getfield 34, 3) := by decide +kernel
theorem dX10_bestOrder_67 : decode cX10_bestOrder 67 = .ok (.aload_n 0, 1) := by decide +kernel
theorem dX10_bestOrder_68 : decode cX10_bestOrder 68 = .ok (.getfield 163, 3) := by decide +kernel
theorem dX10_bestOrder_71 : decode cX10_bestOrder 71 = .ok (.iload_n 3, 1) := by decide +kernel
theorem dX10_bestOrder_72 : decode cX10_bestOrder 72 = .ok (.iastore, 1) := by decide +kernel
theorem dX10_bestOrder_73 : decode cX10_bestOrder 73 = .ok (.aload_n 0, 1) := by decide +kernel
theorem dX10_bestOrder_74 : decode cX10_bestOrder 74 = .ok (.dup, 1) := by decide +kernel
theorem dX10_bestOrder_75 : decode cX10_bestOrder 75 = .ok (.getfield 163, 3) := by decide +kernel
theorem dX10_bestOrder_78 : decode cX10_bestOrder 78 = .ok (.iconst 1, 1) := by decide +kernel
theorem dX10_bestOrder_79 : decode cX10_bestOrder 79 = .ok (.iadd, 1) := by decide +kernel
theorem dX10_bestOrder_80 : decode cX10_bestOrder 80 = .ok (.putfield 163, 3) := by decide +kernel
theorem dX10_bestOrder_83 : decode cX10_bestOrder 83 = .ok (.iinc 3 1, 3) := by decide +kernel
theorem dX10_bestOrder_86 : decode cX10_bestOrder 86 = .ok (.goto (-42), 3) := by decide +kernel
theorem dX10_bestOrder_89 : decode cX10_bestOrder 89 = .ok (.aload_n 0, 1) := by decide +kernel
theorem dX10_bestOrder_90 : decode cX10_bestOrder 90 = .ok (.invokevirtual 169, 3) := by decide +kernel
theorem dX10_bestOrder_93 : decode cX10_bestOrder 93 = .ok (.iconst (-1), 1) := by decide +kernel
theorem dX10_bestOrder_94 : decode cX10_bestOrder 94 = .ok (.istore_n 3, 1) := by decide +kernel
theorem dX10_bestOrder_95 : decode cX10_bestOrder 95 = .ok (.iconst 1, 1) := by decide +kernel
theorem dX10_bestOrder_96 : decode cX10_bestOrder 96 = .ok (.istore 4, 2) := by decide +kernel
theorem dX10_bestOrder_98 : decode cX10_bestOrder 98 = .ok (.iload 4, 2) := by decide +kernel
theorem dX10_bestOrder_100 : decode cX10_bestOrder 100 = .ok (.ifCond .eq 63, 3) := by decide +kernel
theorem dX10_bestOrder_103 : decode cX10_bestOrder 103 = .ok (.aload_n 0, 1) := by decide +kernel
theorem dX10_bestOrder_104 : decode cX10_bestOrder 104 = .ok (.invokevirtual 172, 3) := by decide +kernel
theorem dX10_bestOrder_107 : decode cX10_bestOrder 107 = .ok (.istore 5, 2) := by decide +kernel
theorem dX10_bestOrder_109 : decode cX10_bestOrder 109 = .ok (.iload_n 3, 1) := by decide +kernel
theorem dX10_bestOrder_110 : decode cX10_bestOrder 110 = .ok (.ifCond .lt 9, 3) := by decide +kernel
theorem dX10_bestOrder_113 : decode cX10_bestOrder 113 = .ok (.iload 5, 2) := by decide +kernel
theorem dX10_bestOrder_115 : decode cX10_bestOrder 115 = .ok (.iload_n 3, 1) := by decide +kernel
theorem dX10_bestOrder_116 : decode cX10_bestOrder 116 = .ok (.if_icmp .ge 38, 3) := by decide +kernel
theorem dX10_bestOrder_119 : decode cX10_bestOrder 119 = .ok (.iload 5, 2) := by decide +kernel
theorem dX10_bestOrder_121 : decode cX10_bestOrder 121 = .ok (.istore_n 3, 1) := by decide +kernel
theorem dX10_bestOrder_122 : decode cX10_bestOrder 122 = .ok (.iconst 0, 1) := by decide +kernel
theorem dX10_bestOrder_123 : decode cX10_bestOrder 123 = .ok (.istore 6, 2) := by decide +kernel
theorem dX10_bestOrder_125 : decode cX10_bestOrder 125 = .ok (.iload 6, 2) := by decide +kernel
theorem dX10_bestOrder_127 : decode cX10_bestOrder 127 = .ok (.aload_n 0, 1) := by decide +kernel
theorem dX10_bestOrder_128 : decode cX10_bestOrder 128 = .ok (.getfield 163, 3) := by decide +kernel
theorem dX10_bestOrder_131 : decode cX10_bestOrder 131 = .ok (.if_icmp .ge 23, 3) := by decide +kernel
theorem dX10_bestOrder_134 : decode cX10_bestOrder 134 = .ok (.aload_n 0, 1) := by decide +kernel
theorem dX10_bestOrder_135 : decode cX10_bestOrder 135 = .ok (.getfield 37, 3) := by decide +kernel
theorem dX10_bestOrder_138 : decode cX10_bestOrder 138 = .ok (.iload 6, 2) := by decide +kernel
theorem dX10_bestOrder_140 : decode cX10_bestOrder 140 = .ok (.aload_n 0, 1) := by decide +kernel
theorem dX10_bestOrder_141 : decode cX10_bestOrder 141 = .ok (.getfield 34, 3) := by decide +kernel
theorem dX10_bestOrder_144 : decode cX10_bestOrder 144 = .ok (.iload 6, 2) := by decide +kernel
theorem dX10_bestOrder_146 : decode cX10_bestOrder 146 = .ok (.iaload, 1) := by decide +kernel
theorem dX10_bestOrder_147 : decode cX10_bestOrder 147 = .ok (.iastore, 1) := by decide +kernel
theorem dX10_bestOrder_148 : decode cX10_bestOrder 148 = .ok (.iinc 6 1, 3) := by decide +kernel
theorem dX10_bestOrder_151 : decode cX10_bestOrder 151 = .ok (.goto (-26), 3) := by decide +kernel
theorem dX10_bestOrder_154 : decode cX10_bestOrder 154 = .ok (.aload_n 0, 1) := by decide +kernel
theorem dX10_bestOrder_155 : decode cX10_bestOrder 155 = .ok (.invokevirtual 175, 3) := by decide +kernel
theorem dX10_bestOrder_158 : decode cX10_bestOrder 158 = .ok (.istore 4, 2) := by decide +kernel
theorem dX10_bestOrder_160 : decode cX10_bestOrder 160 = .ok (.goto (-62), 3) := by decide +kernel
theorem dX10_bestOrder_163 : decode cX10_bestOrder 163 = .ok (.iload_n 2, 1) := by decide +kernel
theorem dX10_bestOrder_164 : decode cX10_bestOrder 164 = .ok (.ifCond .ne 7, 3) := by decide +kernel
theorem dX10_bestOrder_167 : decode cX10_bestOrder 167 = .ok (.iload_n 3, 1) := by decide +kernel
theorem dX10_bestOrder_168 : decode cX10_bestOrder 168 = .ok (.goto 25, 3) := by decide +kernel
theorem dX10_bestOrder_171 : decode cX10_bestOrder 171 = .ok (.iload_n 2, 1) := by decide +kernel
theorem dX10_bestOrder_172 : decode cX10_bestOrder 172 = .ok (.aload_n 0, 1) := by decide +kernel
theorem dX10_bestOrder_173 : decode cX10_bestOrder 173 = .ok (.getfield 163, 3) := by decide +kernel
theorem dX10_bestOrder_176 : decode cX10_bestOrder 176 = .ok (.if_icmp .gt 14, 3) := by decide +kernel
theorem dX10_bestOrder_179 : decode cX10_bestOrder 179 = .ok (.aload_n 0, 1) := by decide +kernel
theorem dX10_bestOrder_180 : decode cX10_bestOrder 180 = .ok (.getfield 37, 3) := by decide +kernel
theorem dX10_bestOrder_183 : decode cX10_bestOrder 183 = .ok (.iload_n 2, 1) := by decide +kernel
theorem dX10_bestOrder_184 : decode cX10_bestOrder 184 = .ok (.iconst 1, 1) := by decide +kernel
theorem dX10_bestOrder_185 : decode cX10_bestOrder 185 = .ok (.isub, 1) := by decide +kernel
theorem dX10_bestOrder_186 : decode cX10_bestOrder 186 = .ok (.iaload, 1) := by decide +kernel
theorem dX10_bestOrder_187 : decode cX10_bestOrder 187 = .ok (.goto 6, 3) := by decide +kernel
theorem dX10_bestOrder_190 : decode cX10_bestOrder 190 = .ok (.sipush (-1009), 3) := by decide +kernel
theorem dX10_bestOrder_193 : decode cX10_bestOrder 193 = .ok (.ireturn, 1) := by decide +kernel
theorem dX10_undo_0 : decode cX10_undo 0 = .ok (.aload_n 0, 1) := by decide +kernel
theorem dX10_undo_1 : decode cX10_undo 1 = .ok (.getfield 50, 3) := by decide +kernel
theorem dX10_undo_4 : decode cX10_undo 4 = .ok (.ifCond .ne 7, 3) := by decide +kernel
theorem dX10_undo_7 : decode cX10_undo 7 = .ok (.sipush (-1002), 3) := by decide +kernel
theorem dX10_undo_10 : decode cX10_undo 10 = .ok (.ireturn, 1) := by decide +kernel
theorem dX10_undo_11 : decode cX10_undo 11 = .ok (.aload_n 0, 1) := by decide +kernel
theorem dX10_undo_12 : decode cX10_undo 12 = .ok (.dup, 1) := by decide +kernel
theorem dX10_undo_13 : decode cX10_undo 13 = .ok (.getfield 50, 3) := by decide +kernel
theorem dX10_undo_16 : decode cX10_undo 16 = .ok (.iconst 1, 1) := by decide +kernel
theorem dX10_undo_17 : decode cX10_undo 17 = .ok (.isub, 1) := by decide +kernel
theorem dX10_undo_18 : decode cX10_undo 18 = .ok (.putfield 50, 3) := by decide +kernel
theorem dX10_undo_21 : decode cX10_undo 21 = .ok (.iconst 0, 1) := by decide +kernel
theorem dX10_undo_22 : decode cX10_undo 22 = .ok (.istore_n 1, 1) := by decide +kernel
theorem dX10_undo_23 : decode cX10_undo 23 = .ok (.iload_n 1, 1) := by decide +kernel
theorem dX10_undo_24 : decode cX10_undo 24 = .ok (.sipush 729, 3) := by decide +kernel
theorem dX10_undo_27 : decode cX10_undo 27 = .ok (.if_icmp .ge 30, 3) := by decide +kernel
theorem dX10_undo_30 : decode cX10_undo 30 = .ok (.aload_n 0, 1) := by decide +kernel
theorem dX10_undo_31 : decode cX10_undo 31 = .ok (.getfield 7, 3) := by decide +kernel
theorem dX10_undo_34 : decode cX10_undo 34 = .ok (.iload_n 1, 1) := by decide +kernel
theorem dX10_undo_35 : decode cX10_undo 35 = .ok (.aload_n 0, 1) := by decide +kernel
theorem dX10_undo_36 : decode cX10_undo 36 = .ok (.getfield 13, 3) := by decide +kernel
theorem dX10_undo_39 : decode cX10_undo 39 = .ok (.sipush 729, 3) := by decide +kernel
theorem dX10_undo_42 : decode cX10_undo 42 = .ok (.aload_n 0, 1) := by decide +kernel
theorem dX10_undo_43 : decode cX10_undo 43 = .ok (.getfield 50, 3) := by decide +kernel
theorem dX10_undo_46 : decode cX10_undo 46 = .ok (.imul, 1) := by decide +kernel
theorem dX10_undo_47 : decode cX10_undo 47 = .ok (.iload_n 1, 1) := by decide +kernel
theorem dX10_undo_48 : decode cX10_undo 48 = .ok (.iadd, 1) := by decide +kernel
theorem dX10_undo_49 : decode cX10_undo 49 = .ok (.iaload, 1) := by decide +kernel
theorem dX10_undo_50 : decode cX10_undo 50 = .ok (.iastore, 1) := by decide +kernel
theorem dX10_undo_51 : decode cX10_undo 51 = .ok (.iinc 1 1, 3) := by decide +kernel
theorem dX10_undo_54 : decode cX10_undo 54 = .ok (.goto (-31), 3) := by decide +kernel
theorem dX10_undo_57 : decode cX10_undo 57 = .ok (.aload_n 0, 1) := by decide +kernel
theorem dX10_undo_58 : decode cX10_undo 58 = .ok (.getfield 50, 3) := by decide +kernel
theorem dX10_undo_61 : decode cX10_undo 61 = .ok (.ireturn, 1) := by decide +kernel
theorem dL_law_0 : decode cL_law 0 = .ok (.new 7, 3) := by decide +kernel
theorem dL_law_3 : decode cL_law 3 = .ok (.dup, 1) := by decide +kernel
theorem dL_law_4 : decode cL_law 4 = .ok (.invokespecial 9, 3) := by decide +kernel
theorem dL_law_7 : decode cL_law 7 = .ok (.astore_n 1, 1) := by decide +kernel
theorem dL_law_8 : decode cL_law 8 = .ok (.new 10, 3) := by decide +kernel
theorem dL_law_11 : decode cL_law 11 = .ok (.dup, 1) := by decide +kernel
theorem dL_law_12 : decode cL_law 12 = .ok (.invokespecial 12, 3) := by decide +kernel
theorem dL_law_15 : decode cL_law 15 = .ok (.astore_n 2, 1) := by decide +kernel
theorem dL_law_16 : decode cL_law 16 = .ok (.iconst 0, 1) := by decide +kernel
theorem dL_law_17 : decode cL_law 17 = .ok (.istore_n 3, 1) := by decide +kernel
theorem dL_law_18 : decode cL_law 18 = .ok (.iload_n 3, 1) := by decide +kernel
theorem dL_law_19 : decode cL_law 19 = .ok (.aload_n 0, 1) := by decide +kernel
theorem dL_law_20 : decode cL_law 20 = .ok (.arraylength, 1) := by decide +kernel
theorem dL_law_21 : decode cL_law 21 = .ok (.iconst 4, 1) := by decide +kernel
theorem dL_law_22 : decode cL_law 22 = .ok (.isub, 1) := by decide +kernel
theorem dL_law_23 : decode cL_law 23 = .ok (.if_icmp .gt 890, 3) := by decide +kernel
theorem dL_law_26 : decode cL_law 26 = .ok (.aload_n 0, 1) := by decide +kernel
theorem dL_law_27 : decode cL_law 27 = .ok (.iload_n 3, 1) := by decide +kernel
theorem dL_law_28 : decode cL_law 28 = .ok (.iaload, 1) := by decide +kernel
theorem dL_law_29 : decode cL_law 29 = .ok (.bipush 31, 2) := by decide +kernel
theorem dL_law_31 : decode cL_law 31 = .ok (.iand, 1) := by decide +kernel
theorem dL_law_32 : decode cL_law 32 = .ok (.tableswitch 875 0 26 #[124, 147, 180, 223, 256, 279, 302, 315, 328, 361, 374, 407, 440, 463, 486, 519, 552, 585, 618, 641, 684, 707, 730, 763, 796, 829, 862], 124) := by decide +kernel
theorem dL_law_156 : decode cL_law 156 = .ok (.aload_n 1, 1) := by decide +kernel
theorem dL_law_157 : decode cL_law 157 = .ok (.aload_n 0, 1) := by decide +kernel
theorem dL_law_158 : decode cL_law 158 = .ok (.iload_n 3, 1) := by decide +kernel
theorem dL_law_159 : decode cL_law 159 = .ok (.iconst 1, 1) := by decide +kernel
theorem dL_law_160 : decode cL_law 160 = .ok (.iadd, 1) := by decide +kernel
theorem dL_law_161 : decode cL_law 161 = .ok (.iaload, 1) := by decide +kernel
theorem dL_law_162 : decode cL_law 162 = .ok (.invokevirtual 13, 3) := by decide +kernel
theorem dL_law_165 : decode cL_law 165 = .ok (.aload_n 2, 1) := by decide +kernel
theorem dL_law_166 : decode cL_law 166 = .ok (.aload_n 0, 1) := by decide +kernel
theorem dL_law_167 : decode cL_law 167 = .ok (.iload_n 3, 1) := by decide +kernel
theorem dL_law_168 : decode cL_law 168 = .ok (.iconst 1, 1) := by decide +kernel
theorem dL_law_169 : decode cL_law 169 = .ok (.iadd, 1) := by decide +kernel
theorem dL_law_170 : decode cL_law 170 = .ok (.iaload, 1) := by decide +kernel
theorem dL_law_171 : decode cL_law 171 = .ok (.invokevirtual 17, 3) := by decide +kernel
theorem dL_law_174 : decode cL_law 174 = .ok (.if_icmp .eq 733, 3) := by decide +kernel
theorem dL_law_177 : decode cL_law 177 = .ok (.iconst 0, 1) := by decide +kernel
theorem dL_law_178 : decode cL_law 178 = .ok (.ireturn, 1) := by decide +kernel
theorem dL_law_179 : decode cL_law 179 = .ok (.aload_n 1, 1) := by decide +kernel
theorem dL_law_180 : decode cL_law 180 = .ok (.aload_n 0, 1) := by decide +kernel
theorem dL_law_181 : decode cL_law 181 = .ok (.iload_n 3, 1) := by decide +kernel
theorem dL_law_182 : decode cL_law 182 = .ok (.iconst 1, 1) := by decide +kernel
theorem dL_law_183 : decode cL_law 183 = .ok (.iadd, 1) := by decide +kernel
theorem dL_law_184 : decode cL_law 184 = .ok (.iaload, 1) := by decide +kernel
theorem dL_law_185 : decode cL_law 185 = .ok (.aload_n 0, 1) := by decide +kernel
theorem dL_law_186 : decode cL_law 186 = .ok (.iload_n 3, 1) := by decide +kernel
theorem dL_law_187 : decode cL_law 187 = .ok (.iconst 2, 1) := by decide +kernel
theorem dL_law_188 : decode cL_law 188 = .ok (.iadd, 1) := by decide +kernel
theorem dL_law_189 : decode cL_law 189 = .ok (.iaload, 1) := by decide +kernel
theorem dL_law_190 : decode cL_law 190 = .ok (.invokevirtual 18, 3) := by decide +kernel
theorem dL_law_193 : decode cL_law 193 = .ok (.aload_n 2, 1) := by decide +kernel
theorem dL_law_194 : decode cL_law 194 = .ok (.aload_n 0, 1) := by decide +kernel
theorem dL_law_195 : decode cL_law 195 = .ok (.iload_n 3, 1) := by decide +kernel
theorem dL_law_196 : decode cL_law 196 = .ok (.iconst 1, 1) := by decide +kernel
theorem dL_law_197 : decode cL_law 197 = .ok (.iadd, 1) := by decide +kernel
theorem dL_law_198 : decode cL_law 198 = .ok (.iaload, 1) := by decide +kernel
theorem dL_law_199 : decode cL_law 199 = .ok (.aload_n 0, 1) := by decide +kernel
theorem dL_law_200 : decode cL_law 200 = .ok (.iload_n 3, 1) := by decide +kernel
theorem dL_law_201 : decode cL_law 201 = .ok (.iconst 2, 1) := by decide +kernel
theorem dL_law_202 : decode cL_law 202 = .ok (.iadd, 1) := by decide +kernel
theorem dL_law_203 : decode cL_law 203 = .ok (.iaload, 1) := by decide +kernel
theorem dL_law_204 : decode cL_law 204 = .ok (.invokevirtual 22, 3) := by decide +kernel
theorem dL_law_207 : decode cL_law 207 = .ok (.if_icmp .eq 700, 3) := by decide +kernel
theorem dL_law_210 : decode cL_law 210 = .ok (.iconst 0, 1) := by decide +kernel
theorem dL_law_211 : decode cL_law 211 = .ok (.ireturn, 1) := by decide +kernel
theorem dL_law_212 : decode cL_law 212 = .ok (.aload_n 1, 1) := by decide +kernel
theorem dL_law_213 : decode cL_law 213 = .ok (.aload_n 0, 1) := by decide +kernel
theorem dL_law_214 : decode cL_law 214 = .ok (.iload_n 3, 1) := by decide +kernel
theorem dL_law_215 : decode cL_law 215 = .ok (.iconst 1, 1) := by decide +kernel
theorem dL_law_216 : decode cL_law 216 = .ok (.iadd, 1) := by decide +kernel
theorem dL_law_217 : decode cL_law 217 = .ok (.iaload, 1) := by decide +kernel
theorem dL_law_218 : decode cL_law 218 = .ok (.aload_n 0, 1) := by decide +kernel
theorem dL_law_219 : decode cL_law 219 = .ok (.iload_n 3, 1) := by decide +kernel
theorem dL_law_220 : decode cL_law 220 = .ok (.iconst 2, 1) := by decide +kernel
theorem dL_law_221 : decode cL_law 221 = .ok (.iadd, 1) := by decide +kernel
theorem dL_law_222 : decode cL_law 222 = .ok (.iaload, 1) := by decide +kernel
theorem dL_law_223 : decode cL_law 223 = .ok (.aload_n 0, 1) := by decide +kernel
theorem dL_law_224 : decode cL_law 224 = .ok (.iload_n 3, 1) := by decide +kernel
theorem dL_law_225 : decode cL_law 225 = .ok (.iconst 3, 1) := by decide +kernel
theorem dL_law_226 : decode cL_law 226 = .ok (.iadd, 1) := by decide +kernel
theorem dL_law_227 : decode cL_law 227 = .ok (.iaload, 1) := by decide +kernel
theorem dL_law_228 : decode cL_law 228 = .ok (.invokevirtual 23, 3) := by decide +kernel
theorem dL_law_231 : decode cL_law 231 = .ok (.aload_n 2, 1) := by decide +kernel
theorem dL_law_232 : decode cL_law 232 = .ok (.aload_n 0, 1) := by decide +kernel
theorem dL_law_233 : decode cL_law 233 = .ok (.iload_n 3, 1) := by decide +kernel
theorem dL_law_234 : decode cL_law 234 = .ok (.iconst 1, 1) := by decide +kernel
theorem dL_law_235 : decode cL_law 235 = .ok (.iadd, 1) := by decide +kernel
theorem dL_law_236 : decode cL_law 236 = .ok (.iaload, 1) := by decide +kernel
theorem dL_law_237 : decode cL_law 237 = .ok (.aload_n 0, 1) := by decide +kernel
theorem dL_law_238 : decode cL_law 238 = .ok (.iload_n 3, 1) := by decide +kernel
theorem dL_law_239 : decode cL_law 239 = .ok (.iconst 2, 1) := by decide +kernel
theorem dL_law_240 : decode cL_law 240 = .ok (.iadd, 1) := by decide +kernel
theorem dL_law_241 : decode cL_law 241 = .ok (.iaload, 1) := by decide +kernel
theorem dL_law_242 : decode cL_law 242 = .ok (.aload_n 0, 1) := by decide +kernel
theorem dL_law_243 : decode cL_law 243 = .ok (.iload_n 3, 1) := by decide +kernel
theorem dL_law_244 : decode cL_law 244 = .ok (.iconst 3, 1) := by decide +kernel
theorem dL_law_245 : decode cL_law 245 = .ok (.iadd, 1) := by decide +kernel
theorem dL_law_246 : decode cL_law 246 = .ok (.iaload, 1) := by decide +kernel
theorem dL_law_247 : decode cL_law 247 = .ok (.invokevirtual 27, 3) := by decide +kernel
theorem dL_law_250 : decode cL_law 250 = .ok (.if_icmp .eq 657, 3) := by decide +kernel
theorem dL_law_253 : decode cL_law 253 = .ok (.iconst 0, 1) := by decide +kernel
theorem dL_law_254 : decode cL_law 254 = .ok (.ireturn, 1) := by decide +kernel
theorem dL_law_255 : decode cL_law 255 = .ok (.aload_n 1, 1) := by decide +kernel
theorem dL_law_256 : decode cL_law 256 = .ok (.aload_n 0, 1) := by decide +kernel
theorem dL_law_257 : decode cL_law 257 = .ok (.iload_n 3, 1) := by decide +kernel
theorem dL_law_258 : decode cL_law 258 = .ok (.iconst 1, 1) := by decide +kernel
theorem dL_law_259 : decode cL_law 259 = .ok (.iadd, 1) := by decide +kernel
theorem dL_law_260 : decode cL_law 260 = .ok (.iaload, 1) := by decide +kernel
theorem dL_law_261 : decode cL_law 261 = .ok (.aload_n 0, 1) := by decide +kernel
theorem dL_law_262 : decode cL_law 262 = .ok (.iload_n 3, 1) := by decide +kernel
theorem dL_law_263 : decode cL_law 263 = .ok (.iconst 2, 1) := by decide +kernel
theorem dL_law_264 : decode cL_law 264 = .ok (.iadd, 1) := by decide +kernel
theorem dL_law_265 : decode cL_law 265 = .ok (.iaload, 1) := by decide +kernel
theorem dL_law_266 : decode cL_law 266 = .ok (.invokevirtual 28, 3) := by decide +kernel
theorem dL_law_269 : decode cL_law 269 = .ok (.aload_n 2, 1) := by decide +kernel
theorem dL_law_270 : decode cL_law 270 = .ok (.aload_n 0, 1) := by decide +kernel
theorem dL_law_271 : decode cL_law 271 = .ok (.iload_n 3, 1) := by decide +kernel
theorem dL_law_272 : decode cL_law 272 = .ok (.iconst 1, 1) := by decide +kernel
theorem dL_law_273 : decode cL_law 273 = .ok (.iadd, 1) := by decide +kernel
theorem dL_law_274 : decode cL_law 274 = .ok (.iaload, 1) := by decide +kernel
theorem dL_law_275 : decode cL_law 275 = .ok (.aload_n 0, 1) := by decide +kernel
theorem dL_law_276 : decode cL_law 276 = .ok (.iload_n 3, 1) := by decide +kernel
theorem dL_law_277 : decode cL_law 277 = .ok (.iconst 2, 1) := by decide +kernel
theorem dL_law_278 : decode cL_law 278 = .ok (.iadd, 1) := by decide +kernel
theorem dL_law_279 : decode cL_law 279 = .ok (.iaload, 1) := by decide +kernel
theorem dL_law_280 : decode cL_law 280 = .ok (.invokevirtual 31, 3) := by decide +kernel
theorem dL_law_283 : decode cL_law 283 = .ok (.if_icmp .eq 624, 3) := by decide +kernel
theorem dL_law_286 : decode cL_law 286 = .ok (.iconst 0, 1) := by decide +kernel
theorem dL_law_287 : decode cL_law 287 = .ok (.ireturn, 1) := by decide +kernel
theorem dL_law_288 : decode cL_law 288 = .ok (.aload_n 1, 1) := by decide +kernel
theorem dL_law_289 : decode cL_law 289 = .ok (.aload_n 0, 1) := by decide +kernel
theorem dL_law_290 : decode cL_law 290 = .ok (.iload_n 3, 1) := by decide +kernel
theorem dL_law_291 : decode cL_law 291 = .ok (.iconst 1, 1) := by decide +kernel
theorem dL_law_292 : decode cL_law 292 = .ok (.iadd, 1) := by decide +kernel
theorem dL_law_293 : decode cL_law 293 = .ok (.iaload, 1) := by decide +kernel
theorem dL_law_294 : decode cL_law 294 = .ok (.invokevirtual 32, 3) := by decide +kernel
theorem dL_law_297 : decode cL_law 297 = .ok (.aload_n 2, 1) := by decide +kernel
theorem dL_law_298 : decode cL_law 298 = .ok (.aload_n 0, 1) := by decide +kernel
theorem dL_law_299 : decode cL_law 299 = .ok (.iload_n 3, 1) := by decide +kernel
theorem dL_law_300 : decode cL_law 300 = .ok (.iconst 1, 1) := by decide +kernel
theorem dL_law_301 : decode cL_law 301 = .ok (.iadd, 1) := by decide +kernel
theorem dL_law_302 : decode cL_law 302 = .ok (.iaload, 1) := by decide +kernel
theorem dL_law_303 : decode cL_law 303 = .ok (.invokevirtual 35, 3) := by decide +kernel
theorem dL_law_306 : decode cL_law 306 = .ok (.if_icmp .eq 601, 3) := by decide +kernel
theorem dL_law_309 : decode cL_law 309 = .ok (.iconst 0, 1) := by decide +kernel
theorem dL_law_310 : decode cL_law 310 = .ok (.ireturn, 1) := by decide +kernel
theorem dL_law_311 : decode cL_law 311 = .ok (.aload_n 1, 1) := by decide +kernel
theorem dL_law_312 : decode cL_law 312 = .ok (.aload_n 0, 1) := by decide +kernel
theorem dL_law_313 : decode cL_law 313 = .ok (.iload_n 3, 1) := by decide +kernel
theorem dL_law_314 : decode cL_law 314 = .ok (.iconst 1, 1) := by decide +kernel
theorem dL_law_315 : decode cL_law 315 = .ok (.iadd, 1) := by decide +kernel
theorem dL_law_316 : decode cL_law 316 = .ok (.iaload, 1) := by decide +kernel
theorem dL_law_317 : decode cL_law 317 = .ok (.invokevirtual 36, 3) := by decide +kernel
theorem dL_law_320 : decode cL_law 320 = .ok (.aload_n 2, 1) := by decide +kernel
theorem dL_law_321 : decode cL_law 321 = .ok (.aload_n 0, 1) := by decide +kernel
theorem dL_law_322 : decode cL_law 322 = .ok (.iload_n 3, 1) := by decide +kernel
theorem dL_law_323 : decode cL_law 323 = .ok (.iconst 1, 1) := by decide +kernel
theorem dL_law_324 : decode cL_law 324 = .ok (.iadd, 1) := by decide +kernel
theorem dL_law_325 : decode cL_law 325 = .ok (.iaload, 1) := by decide +kernel
theorem dL_law_326 : decode cL_law 326 = .ok (.invokevirtual 39, 3) := by decide +kernel
theorem dL_law_329 : decode cL_law 329 = .ok (.if_icmp .eq 578, 3) := by decide +kernel
theorem dL_law_332 : decode cL_law 332 = .ok (.iconst 0, 1) := by decide +kernel
theorem dL_law_333 : decode cL_law 333 = .ok (.ireturn, 1) := by decide +kernel
theorem dL_law_334 : decode cL_law 334 = .ok (.aload_n 1, 1) := by decide +kernel
theorem dL_law_335 : decode cL_law 335 = .ok (.invokevirtual 40, 3) := by decide +kernel
theorem dL_law_338 : decode cL_law 338 = .ok (.aload_n 2, 1) := by decide +kernel
theorem dL_law_339 : decode cL_law 339 = .ok (.invokevirtual 44, 3) := by decide +kernel
theorem dL_law_342 : decode cL_law 342 = .ok (.if_icmp .eq 565, 3) := by decide +kernel
theorem dL_law_345 : decode cL_law 345 = .ok (.iconst 0, 1) := by decide +kernel
theorem dL_law_346 : decode cL_law 346 = .ok (.ireturn, 1) := by decide +kernel
theorem dL_law_347 : decode cL_law 347 = .ok (.aload_n 1, 1) := by decide +kernel
theorem dL_law_348 : decode cL_law 348 = .ok (.invokevirtual 45, 3) := by decide +kernel
theorem dL_law_351 : decode cL_law 351 = .ok (.aload_n 2, 1) := by decide +kernel
theorem dL_law_352 : decode cL_law 352 = .ok (.invokevirtual 48, 3) := by decide +kernel
theorem dL_law_355 : decode cL_law 355 = .ok (.if_icmp .eq 552, 3) := by decide +kernel
theorem dL_law_358 : decode cL_law 358 = .ok (.iconst 0, 1) := by decide +kernel
theorem dL_law_359 : decode cL_law 359 = .ok (.ireturn, 1) := by decide +kernel
theorem dL_law_360 : decode cL_law 360 = .ok (.aload_n 1, 1) := by decide +kernel
theorem dL_law_361 : decode cL_law 361 = .ok (.aload_n 0, 1) := by decide +kernel
theorem dL_law_362 : decode cL_law 362 = .ok (.iload_n 3, 1) := by decide +kernel
theorem dL_law_363 : decode cL_law 363 = .ok (.iconst 1, 1) := by decide +kernel
theorem dL_law_364 : decode cL_law 364 = .ok (.iadd, 1) := by decide +kernel
theorem dL_law_365 : decode cL_law 365 = .ok (.iaload, 1) := by decide +kernel
theorem dL_law_366 : decode cL_law 366 = .ok (.aload_n 0, 1) := by decide +kernel
theorem dL_law_367 : decode cL_law 367 = .ok (.iload_n 3, 1) := by decide +kernel
theorem dL_law_368 : decode cL_law 368 = .ok (.iconst 2, 1) := by decide +kernel
theorem dL_law_369 : decode cL_law 369 = .ok (.iadd, 1) := by decide +kernel
theorem dL_law_370 : decode cL_law 370 = .ok (.iaload, 1) := by decide +kernel
theorem dL_law_371 : decode cL_law 371 = .ok (.invokevirtual 49, 3) := by decide +kernel
theorem dL_law_374 : decode cL_law 374 = .ok (.aload_n 2, 1) := by decide +kernel
theorem dL_law_375 : decode cL_law 375 = .ok (.aload_n 0, 1) := by decide +kernel
theorem dL_law_376 : decode cL_law 376 = .ok (.iload_n 3, 1) := by decide +kernel
theorem dL_law_377 : decode cL_law 377 = .ok (.iconst 1, 1) := by decide +kernel
theorem dL_law_378 : decode cL_law 378 = .ok (.iadd, 1) := by decide +kernel
theorem dL_law_379 : decode cL_law 379 = .ok (.iaload, 1) := by decide +kernel
theorem dL_law_380 : decode cL_law 380 = .ok (.aload_n 0, 1) := by decide +kernel
theorem dL_law_381 : decode cL_law 381 = .ok (.iload_n 3, 1) := by decide +kernel
theorem dL_law_382 : decode cL_law 382 = .ok (.iconst 2, 1) := by decide +kernel
theorem dL_law_383 : decode cL_law 383 = .ok (.iadd, 1) := by decide +kernel
theorem dL_law_384 : decode cL_law 384 = .ok (.iaload, 1) := by decide +kernel
theorem dL_law_385 : decode cL_law 385 = .ok (.invokevirtual 52, 3) := by decide +kernel
theorem dL_law_388 : decode cL_law 388 = .ok (.if_icmp .eq 519, 3) := by decide +kernel
theorem dL_law_391 : decode cL_law 391 = .ok (.iconst 0, 1) := by decide +kernel
theorem dL_law_392 : decode cL_law 392 = .ok (.ireturn, 1) := by decide +kernel
theorem dL_law_393 : decode cL_law 393 = .ok (.aload_n 1, 1) := by decide +kernel
theorem dL_law_394 : decode cL_law 394 = .ok (.invokevirtual 53, 3) := by decide +kernel
theorem dL_law_397 : decode cL_law 397 = .ok (.aload_n 2, 1) := by decide +kernel
theorem dL_law_398 : decode cL_law 398 = .ok (.invokevirtual 56, 3) := by decide +kernel
theorem dL_law_401 : decode cL_law 401 = .ok (.if_icmp .eq 506, 3) := by decide +kernel
theorem dL_law_404 : decode cL_law 404 = .ok (.iconst 0, 1) := by decide +kernel
theorem dL_law_405 : decode cL_law 405 = .ok (.ireturn, 1) := by decide +kernel
theorem dL_law_406 : decode cL_law 406 = .ok (.aload_n 1, 1) := by decide +kernel
theorem dL_law_407 : decode cL_law 407 = .ok (.aload_n 0, 1) := by decide +kernel
theorem dL_law_408 : decode cL_law 408 = .ok (.iload_n 3, 1) := by decide +kernel
theorem dL_law_409 : decode cL_law 409 = .ok (.iconst 1, 1) := by decide +kernel
theorem dL_law_410 : decode cL_law 410 = .ok (.iadd, 1) := by decide +kernel
theorem dL_law_411 : decode cL_law 411 = .ok (.iaload, 1) := by decide +kernel
theorem dL_law_412 : decode cL_law 412 = .ok (.aload_n 0, 1) := by decide +kernel
theorem dL_law_413 : decode cL_law 413 = .ok (.iload_n 3, 1) := by decide +kernel
theorem dL_law_414 : decode cL_law 414 = .ok (.iconst 2, 1) := by decide +kernel
theorem dL_law_415 : decode cL_law 415 = .ok (.iadd, 1) := by decide +kernel
theorem dL_law_416 : decode cL_law 416 = .ok (.iaload, 1) := by decide +kernel
theorem dL_law_417 : decode cL_law 417 = .ok (.invokevirtual 57, 3) := by decide +kernel
theorem dL_law_420 : decode cL_law 420 = .ok (.aload_n 2, 1) := by decide +kernel
theorem dL_law_421 : decode cL_law 421 = .ok (.aload_n 0, 1) := by decide +kernel
theorem dL_law_422 : decode cL_law 422 = .ok (.iload_n 3, 1) := by decide +kernel
theorem dL_law_423 : decode cL_law 423 = .ok (.iconst 1, 1) := by decide +kernel
theorem dL_law_424 : decode cL_law 424 = .ok (.iadd, 1) := by decide +kernel
theorem dL_law_425 : decode cL_law 425 = .ok (.iaload, 1) := by decide +kernel
theorem dL_law_426 : decode cL_law 426 = .ok (.aload_n 0, 1) := by decide +kernel
theorem dL_law_427 : decode cL_law 427 = .ok (.iload_n 3, 1) := by decide +kernel
theorem dL_law_428 : decode cL_law 428 = .ok (.iconst 2, 1) := by decide +kernel
theorem dL_law_429 : decode cL_law 429 = .ok (.iadd, 1) := by decide +kernel
theorem dL_law_430 : decode cL_law 430 = .ok (.iaload, 1) := by decide +kernel
theorem dL_law_431 : decode cL_law 431 = .ok (.invokevirtual 60, 3) := by decide +kernel
theorem dL_law_434 : decode cL_law 434 = .ok (.if_icmp .eq 473, 3) := by decide +kernel
theorem dL_law_437 : decode cL_law 437 = .ok (.iconst 0, 1) := by decide +kernel
theorem dL_law_438 : decode cL_law 438 = .ok (.ireturn, 1) := by decide +kernel
theorem dL_law_439 : decode cL_law 439 = .ok (.aload_n 1, 1) := by decide +kernel
theorem dL_law_440 : decode cL_law 440 = .ok (.aload_n 0, 1) := by decide +kernel
theorem dL_law_441 : decode cL_law 441 = .ok (.iload_n 3, 1) := by decide +kernel
theorem dL_law_442 : decode cL_law 442 = .ok (.iconst 1, 1) := by decide +kernel
theorem dL_law_443 : decode cL_law 443 = .ok (.iadd, 1) := by decide +kernel
theorem dL_law_444 : decode cL_law 444 = .ok (.iaload, 1) := by decide +kernel
theorem dL_law_445 : decode cL_law 445 = .ok (.aload_n 0, 1) := by decide +kernel
theorem dL_law_446 : decode cL_law 446 = .ok (.iload_n 3, 1) := by decide +kernel
theorem dL_law_447 : decode cL_law 447 = .ok (.iconst 2, 1) := by decide +kernel
theorem dL_law_448 : decode cL_law 448 = .ok (.iadd, 1) := by decide +kernel
theorem dL_law_449 : decode cL_law 449 = .ok (.iaload, 1) := by decide +kernel
theorem dL_law_450 : decode cL_law 450 = .ok (.invokevirtual 61, 3) := by decide +kernel
theorem dL_law_453 : decode cL_law 453 = .ok (.aload_n 2, 1) := by decide +kernel
theorem dL_law_454 : decode cL_law 454 = .ok (.aload_n 0, 1) := by decide +kernel
theorem dL_law_455 : decode cL_law 455 = .ok (.iload_n 3, 1) := by decide +kernel
theorem dL_law_456 : decode cL_law 456 = .ok (.iconst 1, 1) := by decide +kernel
theorem dL_law_457 : decode cL_law 457 = .ok (.iadd, 1) := by decide +kernel
theorem dL_law_458 : decode cL_law 458 = .ok (.iaload, 1) := by decide +kernel
theorem dL_law_459 : decode cL_law 459 = .ok (.aload_n 0, 1) := by decide +kernel
theorem dL_law_460 : decode cL_law 460 = .ok (.iload_n 3, 1) := by decide +kernel
theorem dL_law_461 : decode cL_law 461 = .ok (.iconst 2, 1) := by decide +kernel
theorem dL_law_462 : decode cL_law 462 = .ok (.iadd, 1) := by decide +kernel
theorem dL_law_463 : decode cL_law 463 = .ok (.iaload, 1) := by decide +kernel
theorem dL_law_464 : decode cL_law 464 = .ok (.invokevirtual 64, 3) := by decide +kernel
theorem dL_law_467 : decode cL_law 467 = .ok (.if_icmp .eq 440, 3) := by decide +kernel
theorem dL_law_470 : decode cL_law 470 = .ok (.iconst 0, 1) := by decide +kernel
theorem dL_law_471 : decode cL_law 471 = .ok (.ireturn, 1) := by decide +kernel
theorem dL_law_472 : decode cL_law 472 = .ok (.aload_n 1, 1) := by decide +kernel
theorem dL_law_473 : decode cL_law 473 = .ok (.aload_n 0, 1) := by decide +kernel
theorem dL_law_474 : decode cL_law 474 = .ok (.iload_n 3, 1) := by decide +kernel
theorem dL_law_475 : decode cL_law 475 = .ok (.iconst 1, 1) := by decide +kernel
theorem dL_law_476 : decode cL_law 476 = .ok (.iadd, 1) := by decide +kernel
theorem dL_law_477 : decode cL_law 477 = .ok (.iaload, 1) := by decide +kernel
theorem dL_law_478 : decode cL_law 478 = .ok (.invokevirtual 65, 3) := by decide +kernel
theorem dL_law_481 : decode cL_law 481 = .ok (.aload_n 2, 1) := by decide +kernel
theorem dL_law_482 : decode cL_law 482 = .ok (.aload_n 0, 1) := by decide +kernel
theorem dL_law_483 : decode cL_law 483 = .ok (.iload_n 3, 1) := by decide +kernel
theorem dL_law_484 : decode cL_law 484 = .ok (.iconst 1, 1) := by decide +kernel
theorem dL_law_485 : decode cL_law 485 = .ok (.iadd, 1) := by decide +kernel
theorem dL_law_486 : decode cL_law 486 = .ok (.iaload, 1) := by decide +kernel
theorem dL_law_487 : decode cL_law 487 = .ok (.invokevirtual 68, 3) := by decide +kernel
theorem dL_law_490 : decode cL_law 490 = .ok (.if_icmp .eq 417, 3) := by decide +kernel
theorem dL_law_493 : decode cL_law 493 = .ok (.iconst 0, 1) := by decide +kernel
theorem dL_law_494 : decode cL_law 494 = .ok (.ireturn, 1) := by decide +kernel
theorem dL_law_495 : decode cL_law 495 = .ok (.aload_n 1, 1) := by decide +kernel
theorem dL_law_496 : decode cL_law 496 = .ok (.aload_n 0, 1) := by decide +kernel
theorem dL_law_497 : decode cL_law 497 = .ok (.iload_n 3, 1) := by decide +kernel
theorem dL_law_498 : decode cL_law 498 = .ok (.iconst 1, 1) := by decide +kernel
theorem dL_law_499 : decode cL_law 499 = .ok (.iadd, 1) := by decide +kernel
theorem dL_law_500 : decode cL_law 500 = .ok (.iaload, 1) := by decide +kernel
theorem dL_law_501 : decode cL_law 501 = .ok (.invokevirtual 69, 3) := by decide +kernel
theorem dL_law_504 : decode cL_law 504 = .ok (.aload_n 2, 1) := by decide +kernel
theorem dL_law_505 : decode cL_law 505 = .ok (.aload_n 0, 1) := by decide +kernel
theorem dL_law_506 : decode cL_law 506 = .ok (.iload_n 3, 1) := by decide +kernel
theorem dL_law_507 : decode cL_law 507 = .ok (.iconst 1, 1) := by decide +kernel
theorem dL_law_508 : decode cL_law 508 = .ok (.iadd, 1) := by decide +kernel
theorem dL_law_509 : decode cL_law 509 = .ok (.iaload, 1) := by decide +kernel
theorem dL_law_510 : decode cL_law 510 = .ok (.invokevirtual 72, 3) := by decide +kernel
theorem dL_law_513 : decode cL_law 513 = .ok (.if_icmp .eq 394, 3) := by decide +kernel
theorem dL_law_516 : decode cL_law 516 = .ok (.iconst 0, 1) := by decide +kernel
theorem dL_law_517 : decode cL_law 517 = .ok (.ireturn, 1) := by decide +kernel
theorem dL_law_518 : decode cL_law 518 = .ok (.aload_n 1, 1) := by decide +kernel
theorem dL_law_519 : decode cL_law 519 = .ok (.aload_n 0, 1) := by decide +kernel
theorem dL_law_520 : decode cL_law 520 = .ok (.iload_n 3, 1) := by decide +kernel
theorem dL_law_521 : decode cL_law 521 = .ok (.iconst 1, 1) := by decide +kernel
theorem dL_law_522 : decode cL_law 522 = .ok (.iadd, 1) := by decide +kernel
theorem dL_law_523 : decode cL_law 523 = .ok (.iaload, 1) := by decide +kernel
theorem dL_law_524 : decode cL_law 524 = .ok (.aload_n 0, 1) := by decide +kernel
theorem dL_law_525 : decode cL_law 525 = .ok (.iload_n 3, 1) := by decide +kernel
theorem dL_law_526 : decode cL_law 526 = .ok (.iconst 2, 1) := by decide +kernel
theorem dL_law_527 : decode cL_law 527 = .ok (.iadd, 1) := by decide +kernel
theorem dL_law_528 : decode cL_law 528 = .ok (.iaload, 1) := by decide +kernel
theorem dL_law_529 : decode cL_law 529 = .ok (.invokevirtual 73, 3) := by decide +kernel
theorem dL_law_532 : decode cL_law 532 = .ok (.aload_n 2, 1) := by decide +kernel
theorem dL_law_533 : decode cL_law 533 = .ok (.aload_n 0, 1) := by decide +kernel
theorem dL_law_534 : decode cL_law 534 = .ok (.iload_n 3, 1) := by decide +kernel
theorem dL_law_535 : decode cL_law 535 = .ok (.iconst 1, 1) := by decide +kernel
theorem dL_law_536 : decode cL_law 536 = .ok (.iadd, 1) := by decide +kernel
theorem dL_law_537 : decode cL_law 537 = .ok (.iaload, 1) := by decide +kernel
theorem dL_law_538 : decode cL_law 538 = .ok (.aload_n 0, 1) := by decide +kernel
theorem dL_law_539 : decode cL_law 539 = .ok (.iload_n 3, 1) := by decide +kernel
theorem dL_law_540 : decode cL_law 540 = .ok (.iconst 2, 1) := by decide +kernel
theorem dL_law_541 : decode cL_law 541 = .ok (.iadd, 1) := by decide +kernel
theorem dL_law_542 : decode cL_law 542 = .ok (.iaload, 1) := by decide +kernel
theorem dL_law_543 : decode cL_law 543 = .ok (.invokevirtual 76, 3) := by decide +kernel
theorem dL_law_546 : decode cL_law 546 = .ok (.if_icmp .eq 361, 3) := by decide +kernel
theorem dL_law_549 : decode cL_law 549 = .ok (.iconst 0, 1) := by decide +kernel
theorem dL_law_550 : decode cL_law 550 = .ok (.ireturn, 1) := by decide +kernel
theorem dL_law_551 : decode cL_law 551 = .ok (.aload_n 1, 1) := by decide +kernel
theorem dL_law_552 : decode cL_law 552 = .ok (.aload_n 0, 1) := by decide +kernel
theorem dL_law_553 : decode cL_law 553 = .ok (.iload_n 3, 1) := by decide +kernel
theorem dL_law_554 : decode cL_law 554 = .ok (.iconst 1, 1) := by decide +kernel
theorem dL_law_555 : decode cL_law 555 = .ok (.iadd, 1) := by decide +kernel
theorem dL_law_556 : decode cL_law 556 = .ok (.iaload, 1) := by decide +kernel
theorem dL_law_557 : decode cL_law 557 = .ok (.aload_n 0, 1) := by decide +kernel
theorem dL_law_558 : decode cL_law 558 = .ok (.iload_n 3, 1) := by decide +kernel
theorem dL_law_559 : decode cL_law 559 = .ok (.iconst 2, 1) := by decide +kernel
theorem dL_law_560 : decode cL_law 560 = .ok (.iadd, 1) := by decide +kernel
theorem dL_law_561 : decode cL_law 561 = .ok (.iaload, 1) := by decide +kernel
theorem dL_law_562 : decode cL_law 562 = .ok (.invokevirtual 77, 3) := by decide +kernel
theorem dL_law_565 : decode cL_law 565 = .ok (.aload_n 2, 1) := by decide +kernel
theorem dL_law_566 : decode cL_law 566 = .ok (.aload_n 0, 1) := by decide +kernel
theorem dL_law_567 : decode cL_law 567 = .ok (.iload_n 3, 1) := by decide +kernel
theorem dL_law_568 : decode cL_law 568 = .ok (.iconst 1, 1) := by decide +kernel
theorem dL_law_569 : decode cL_law 569 = .ok (.iadd, 1) := by decide +kernel
theorem dL_law_570 : decode cL_law 570 = .ok (.iaload, 1) := by decide +kernel
theorem dL_law_571 : decode cL_law 571 = .ok (.aload_n 0, 1) := by decide +kernel
theorem dL_law_572 : decode cL_law 572 = .ok (.iload_n 3, 1) := by decide +kernel
theorem dL_law_573 : decode cL_law 573 = .ok (.iconst 2, 1) := by decide +kernel
theorem dL_law_574 : decode cL_law 574 = .ok (.iadd, 1) := by decide +kernel
theorem dL_law_575 : decode cL_law 575 = .ok (.iaload, 1) := by decide +kernel
theorem dL_law_576 : decode cL_law 576 = .ok (.invokevirtual 80, 3) := by decide +kernel
theorem dL_law_579 : decode cL_law 579 = .ok (.if_icmp .eq 328, 3) := by decide +kernel
theorem dL_law_582 : decode cL_law 582 = .ok (.iconst 0, 1) := by decide +kernel
theorem dL_law_583 : decode cL_law 583 = .ok (.ireturn, 1) := by decide +kernel
theorem dL_law_584 : decode cL_law 584 = .ok (.aload_n 1, 1) := by decide +kernel
theorem dL_law_585 : decode cL_law 585 = .ok (.aload_n 0, 1) := by decide +kernel
theorem dL_law_586 : decode cL_law 586 = .ok (.iload_n 3, 1) := by decide +kernel
theorem dL_law_587 : decode cL_law 587 = .ok (.iconst 1, 1) := by decide +kernel
theorem dL_law_588 : decode cL_law 588 = .ok (.iadd, 1) := by decide +kernel
theorem dL_law_589 : decode cL_law 589 = .ok (.iaload, 1) := by decide +kernel
theorem dL_law_590 : decode cL_law 590 = .ok (.aload_n 0, 1) := by decide +kernel
theorem dL_law_591 : decode cL_law 591 = .ok (.iload_n 3, 1) := by decide +kernel
theorem dL_law_592 : decode cL_law 592 = .ok (.iconst 2, 1) := by decide +kernel
theorem dL_law_593 : decode cL_law 593 = .ok (.iadd, 1) := by decide +kernel
theorem dL_law_594 : decode cL_law 594 = .ok (.iaload, 1) := by decide +kernel
theorem dL_law_595 : decode cL_law 595 = .ok (.invokevirtual 81, 3) := by decide +kernel
theorem dL_law_598 : decode cL_law 598 = .ok (.aload_n 2, 1) := by decide +kernel
theorem dL_law_599 : decode cL_law 599 = .ok (.aload_n 0, 1) := by decide +kernel
theorem dL_law_600 : decode cL_law 600 = .ok (.iload_n 3, 1) := by decide +kernel
theorem dL_law_601 : decode cL_law 601 = .ok (.iconst 1, 1) := by decide +kernel
theorem dL_law_602 : decode cL_law 602 = .ok (.iadd, 1) := by decide +kernel
theorem dL_law_603 : decode cL_law 603 = .ok (.iaload, 1) := by decide +kernel
theorem dL_law_604 : decode cL_law 604 = .ok (.aload_n 0, 1) := by decide +kernel
theorem dL_law_605 : decode cL_law 605 = .ok (.iload_n 3, 1) := by decide +kernel
theorem dL_law_606 : decode cL_law 606 = .ok (.iconst 2, 1) := by decide +kernel
theorem dL_law_607 : decode cL_law 607 = .ok (.iadd, 1) := by decide +kernel
theorem dL_law_608 : decode cL_law 608 = .ok (.iaload, 1) := by decide +kernel
theorem dL_law_609 : decode cL_law 609 = .ok (.invokevirtual 84, 3) := by decide +kernel
theorem dL_law_612 : decode cL_law 612 = .ok (.if_icmp .eq 295, 3) := by decide +kernel
theorem dL_law_615 : decode cL_law 615 = .ok (.iconst 0, 1) := by decide +kernel
theorem dL_law_616 : decode cL_law 616 = .ok (.ireturn, 1) := by decide +kernel
theorem dL_law_617 : decode cL_law 617 = .ok (.aload_n 1, 1) := by decide +kernel
theorem dL_law_618 : decode cL_law 618 = .ok (.aload_n 0, 1) := by decide +kernel
theorem dL_law_619 : decode cL_law 619 = .ok (.iload_n 3, 1) := by decide +kernel
theorem dL_law_620 : decode cL_law 620 = .ok (.iconst 1, 1) := by decide +kernel
theorem dL_law_621 : decode cL_law 621 = .ok (.iadd, 1) := by decide +kernel
theorem dL_law_622 : decode cL_law 622 = .ok (.iaload, 1) := by decide +kernel
theorem dL_law_623 : decode cL_law 623 = .ok (.aload_n 0, 1) := by decide +kernel
theorem dL_law_624 : decode cL_law 624 = .ok (.iload_n 3, 1) := by decide +kernel
theorem dL_law_625 : decode cL_law 625 = .ok (.iconst 2, 1) := by decide +kernel
theorem dL_law_626 : decode cL_law 626 = .ok (.iadd, 1) := by decide +kernel
theorem dL_law_627 : decode cL_law 627 = .ok (.iaload, 1) := by decide +kernel
theorem dL_law_628 : decode cL_law 628 = .ok (.invokevirtual 85, 3) := by decide +kernel
theorem dL_law_631 : decode cL_law 631 = .ok (.aload_n 2, 1) := by decide +kernel
theorem dL_law_632 : decode cL_law 632 = .ok (.aload_n 0, 1) := by decide +kernel
theorem dL_law_633 : decode cL_law 633 = .ok (.iload_n 3, 1) := by decide +kernel
theorem dL_law_634 : decode cL_law 634 = .ok (.iconst 1, 1) := by decide +kernel
theorem dL_law_635 : decode cL_law 635 = .ok (.iadd, 1) := by decide +kernel
theorem dL_law_636 : decode cL_law 636 = .ok (.iaload, 1) := by decide +kernel
theorem dL_law_637 : decode cL_law 637 = .ok (.aload_n 0, 1) := by decide +kernel
theorem dL_law_638 : decode cL_law 638 = .ok (.iload_n 3, 1) := by decide +kernel
theorem dL_law_639 : decode cL_law 639 = .ok (.iconst 2, 1) := by decide +kernel
theorem dL_law_640 : decode cL_law 640 = .ok (.iadd, 1) := by decide +kernel
theorem dL_law_641 : decode cL_law 641 = .ok (.iaload, 1) := by decide +kernel
theorem dL_law_642 : decode cL_law 642 = .ok (.invokevirtual 88, 3) := by decide +kernel
theorem dL_law_645 : decode cL_law 645 = .ok (.if_icmp .eq 262, 3) := by decide +kernel
theorem dL_law_648 : decode cL_law 648 = .ok (.iconst 0, 1) := by decide +kernel
theorem dL_law_649 : decode cL_law 649 = .ok (.ireturn, 1) := by decide +kernel
theorem dL_law_650 : decode cL_law 650 = .ok (.aload_n 1, 1) := by decide +kernel
theorem dL_law_651 : decode cL_law 651 = .ok (.aload_n 0, 1) := by decide +kernel
theorem dL_law_652 : decode cL_law 652 = .ok (.iload_n 3, 1) := by decide +kernel
theorem dL_law_653 : decode cL_law 653 = .ok (.iconst 1, 1) := by decide +kernel
theorem dL_law_654 : decode cL_law 654 = .ok (.iadd, 1) := by decide +kernel
theorem dL_law_655 : decode cL_law 655 = .ok (.iaload, 1) := by decide +kernel
theorem dL_law_656 : decode cL_law 656 = .ok (.invokevirtual 89, 3) := by decide +kernel
theorem dL_law_659 : decode cL_law 659 = .ok (.aload_n 2, 1) := by decide +kernel
theorem dL_law_660 : decode cL_law 660 = .ok (.aload_n 0, 1) := by decide +kernel
theorem dL_law_661 : decode cL_law 661 = .ok (.iload_n 3, 1) := by decide +kernel
theorem dL_law_662 : decode cL_law 662 = .ok (.iconst 1, 1) := by decide +kernel
theorem dL_law_663 : decode cL_law 663 = .ok (.iadd, 1) := by decide +kernel
theorem dL_law_664 : decode cL_law 664 = .ok (.iaload, 1) := by decide +kernel
theorem dL_law_665 : decode cL_law 665 = .ok (.invokevirtual 92, 3) := by decide +kernel
theorem dL_law_668 : decode cL_law 668 = .ok (.if_icmp .eq 239, 3) := by decide +kernel
theorem dL_law_671 : decode cL_law 671 = .ok (.iconst 0, 1) := by decide +kernel
theorem dL_law_672 : decode cL_law 672 = .ok (.ireturn, 1) := by decide +kernel
theorem dL_law_673 : decode cL_law 673 = .ok (.aload_n 1, 1) := by decide +kernel
theorem dL_law_674 : decode cL_law 674 = .ok (.aload_n 0, 1) := by decide +kernel
theorem dL_law_675 : decode cL_law 675 = .ok (.iload_n 3, 1) := by decide +kernel
theorem dL_law_676 : decode cL_law 676 = .ok (.iconst 1, 1) := by decide +kernel
theorem dL_law_677 : decode cL_law 677 = .ok (.iadd, 1) := by decide +kernel
theorem dL_law_678 : decode cL_law 678 = .ok (.iaload, 1) := by decide +kernel
theorem dL_law_679 : decode cL_law 679 = .ok (.aload_n 0, 1) := by decide +kernel
theorem dL_law_680 : decode cL_law 680 = .ok (.iload_n 3, 1) := by decide +kernel
theorem dL_law_681 : decode cL_law 681 = .ok (.iconst 2, 1) := by decide +kernel
theorem dL_law_682 : decode cL_law 682 = .ok (.iadd, 1) := by decide +kernel
theorem dL_law_683 : decode cL_law 683 = .ok (.iaload, 1) := by decide +kernel
theorem dL_law_684 : decode cL_law 684 = .ok (.aload_n 0, 1) := by decide +kernel
theorem dL_law_685 : decode cL_law 685 = .ok (.iload_n 3, 1) := by decide +kernel
theorem dL_law_686 : decode cL_law 686 = .ok (.iconst 3, 1) := by decide +kernel
theorem dL_law_687 : decode cL_law 687 = .ok (.iadd, 1) := by decide +kernel
theorem dL_law_688 : decode cL_law 688 = .ok (.iaload, 1) := by decide +kernel
theorem dL_law_689 : decode cL_law 689 = .ok (.invokevirtual 93, 3) := by decide +kernel
theorem dL_law_692 : decode cL_law 692 = .ok (.aload_n 2, 1) := by decide +kernel
theorem dL_law_693 : decode cL_law 693 = .ok (.aload_n 0, 1) := by decide +kernel
theorem dL_law_694 : decode cL_law 694 = .ok (.iload_n 3, 1) := by decide +kernel
theorem dL_law_695 : decode cL_law 695 = .ok (.iconst 1, 1) := by decide +kernel
theorem dL_law_696 : decode cL_law 696 = .ok (.iadd, 1) := by decide +kernel
theorem dL_law_697 : decode cL_law 697 = .ok (.iaload, 1) := by decide +kernel
theorem dL_law_698 : decode cL_law 698 = .ok (.aload_n 0, 1) := by decide +kernel
theorem dL_law_699 : decode cL_law 699 = .ok (.iload_n 3, 1) := by decide +kernel
theorem dL_law_700 : decode cL_law 700 = .ok (.iconst 2, 1) := by decide +kernel
theorem dL_law_701 : decode cL_law 701 = .ok (.iadd, 1) := by decide +kernel
theorem dL_law_702 : decode cL_law 702 = .ok (.iaload, 1) := by decide +kernel
theorem dL_law_703 : decode cL_law 703 = .ok (.aload_n 0, 1) := by decide +kernel
theorem dL_law_704 : decode cL_law 704 = .ok (.iload_n 3, 1) := by decide +kernel
theorem dL_law_705 : decode cL_law 705 = .ok (.iconst 3, 1) := by decide +kernel
theorem dL_law_706 : decode cL_law 706 = .ok (.iadd, 1) := by decide +kernel
theorem dL_law_707 : decode cL_law 707 = .ok (.iaload, 1) := by decide +kernel
theorem dL_law_708 : decode cL_law 708 = .ok (.invokevirtual 96, 3) := by decide +kernel
theorem dL_law_711 : decode cL_law 711 = .ok (.if_icmp .eq 196, 3) := by decide +kernel
theorem dL_law_714 : decode cL_law 714 = .ok (.iconst 0, 1) := by decide +kernel
theorem dL_law_715 : decode cL_law 715 = .ok (.ireturn, 1) := by decide +kernel
theorem dL_law_716 : decode cL_law 716 = .ok (.aload_n 1, 1) := by decide +kernel
theorem dL_law_717 : decode cL_law 717 = .ok (.aload_n 0, 1) := by decide +kernel
theorem dL_law_718 : decode cL_law 718 = .ok (.iload_n 3, 1) := by decide +kernel
theorem dL_law_719 : decode cL_law 719 = .ok (.iconst 1, 1) := by decide +kernel
theorem dL_law_720 : decode cL_law 720 = .ok (.iadd, 1) := by decide +kernel
theorem dL_law_721 : decode cL_law 721 = .ok (.iaload, 1) := by decide +kernel
theorem dL_law_722 : decode cL_law 722 = .ok (.invokevirtual 97, 3) := by decide +kernel
theorem dL_law_725 : decode cL_law 725 = .ok (.aload_n 2, 1) := by decide +kernel
theorem dL_law_726 : decode cL_law 726 = .ok (.aload_n 0, 1) := by decide +kernel
theorem dL_law_727 : decode cL_law 727 = .ok (.iload_n 3, 1) := by decide +kernel
theorem dL_law_728 : decode cL_law 728 = .ok (.iconst 1, 1) := by decide +kernel
theorem dL_law_729 : decode cL_law 729 = .ok (.iadd, 1) := by decide +kernel
theorem dL_law_730 : decode cL_law 730 = .ok (.iaload, 1) := by decide +kernel
theorem dL_law_731 : decode cL_law 731 = .ok (.invokevirtual 100, 3) := by decide +kernel
theorem dL_law_734 : decode cL_law 734 = .ok (.if_icmp .eq 173, 3) := by decide +kernel
theorem dL_law_737 : decode cL_law 737 = .ok (.iconst 0, 1) := by decide +kernel
theorem dL_law_738 : decode cL_law 738 = .ok (.ireturn, 1) := by decide +kernel
theorem dL_law_739 : decode cL_law 739 = .ok (.aload_n 1, 1) := by decide +kernel
theorem dL_law_740 : decode cL_law 740 = .ok (.aload_n 0, 1) := by decide +kernel
theorem dL_law_741 : decode cL_law 741 = .ok (.iload_n 3, 1) := by decide +kernel
theorem dL_law_742 : decode cL_law 742 = .ok (.iconst 1, 1) := by decide +kernel
theorem dL_law_743 : decode cL_law 743 = .ok (.iadd, 1) := by decide +kernel
theorem dL_law_744 : decode cL_law 744 = .ok (.iaload, 1) := by decide +kernel
theorem dL_law_745 : decode cL_law 745 = .ok (.invokevirtual 101, 3) := by decide +kernel
theorem dL_law_748 : decode cL_law 748 = .ok (.aload_n 2, 1) := by decide +kernel
theorem dL_law_749 : decode cL_law 749 = .ok (.aload_n 0, 1) := by decide +kernel
theorem dL_law_750 : decode cL_law 750 = .ok (.iload_n 3, 1) := by decide +kernel
theorem dL_law_751 : decode cL_law 751 = .ok (.iconst 1, 1) := by decide +kernel
theorem dL_law_752 : decode cL_law 752 = .ok (.iadd, 1) := by decide +kernel
theorem dL_law_753 : decode cL_law 753 = .ok (.iaload, 1) := by decide +kernel
theorem dL_law_754 : decode cL_law 754 = .ok (.invokevirtual 104, 3) := by decide +kernel
theorem dL_law_757 : decode cL_law 757 = .ok (.if_icmp .eq 150, 3) := by decide +kernel
theorem dL_law_760 : decode cL_law 760 = .ok (.iconst 0, 1) := by decide +kernel
theorem dL_law_761 : decode cL_law 761 = .ok (.ireturn, 1) := by decide +kernel
theorem dL_law_762 : decode cL_law 762 = .ok (.aload_n 1, 1) := by decide +kernel
theorem dL_law_763 : decode cL_law 763 = .ok (.aload_n 0, 1) := by decide +kernel
theorem dL_law_764 : decode cL_law 764 = .ok (.iload_n 3, 1) := by decide +kernel
theorem dL_law_765 : decode cL_law 765 = .ok (.iconst 1, 1) := by decide +kernel
theorem dL_law_766 : decode cL_law 766 = .ok (.iadd, 1) := by decide +kernel
theorem dL_law_767 : decode cL_law 767 = .ok (.iaload, 1) := by decide +kernel
theorem dL_law_768 : decode cL_law 768 = .ok (.aload_n 0, 1) := by decide +kernel
theorem dL_law_769 : decode cL_law 769 = .ok (.iload_n 3, 1) := by decide +kernel
theorem dL_law_770 : decode cL_law 770 = .ok (.iconst 2, 1) := by decide +kernel
theorem dL_law_771 : decode cL_law 771 = .ok (.iadd, 1) := by decide +kernel
theorem dL_law_772 : decode cL_law 772 = .ok (.iaload, 1) := by decide +kernel
theorem dL_law_773 : decode cL_law 773 = .ok (.invokevirtual 105, 3) := by decide +kernel
theorem dL_law_776 : decode cL_law 776 = .ok (.aload_n 2, 1) := by decide +kernel
theorem dL_law_777 : decode cL_law 777 = .ok (.aload_n 0, 1) := by decide +kernel
theorem dL_law_778 : decode cL_law 778 = .ok (.iload_n 3, 1) := by decide +kernel
theorem dL_law_779 : decode cL_law 779 = .ok (.iconst 1, 1) := by decide +kernel
theorem dL_law_780 : decode cL_law 780 = .ok (.iadd, 1) := by decide +kernel
theorem dL_law_781 : decode cL_law 781 = .ok (.iaload, 1) := by decide +kernel
theorem dL_law_782 : decode cL_law 782 = .ok (.aload_n 0, 1) := by decide +kernel
theorem dL_law_783 : decode cL_law 783 = .ok (.iload_n 3, 1) := by decide +kernel
theorem dL_law_784 : decode cL_law 784 = .ok (.iconst 2, 1) := by decide +kernel
theorem dL_law_785 : decode cL_law 785 = .ok (.iadd, 1) := by decide +kernel
theorem dL_law_786 : decode cL_law 786 = .ok (.iaload, 1) := by decide +kernel
theorem dL_law_787 : decode cL_law 787 = .ok (.invokevirtual 108, 3) := by decide +kernel
theorem dL_law_790 : decode cL_law 790 = .ok (.if_icmp .eq 117, 3) := by decide +kernel
theorem dL_law_793 : decode cL_law 793 = .ok (.iconst 0, 1) := by decide +kernel
theorem dL_law_794 : decode cL_law 794 = .ok (.ireturn, 1) := by decide +kernel
theorem dL_law_795 : decode cL_law 795 = .ok (.aload_n 1, 1) := by decide +kernel
theorem dL_law_796 : decode cL_law 796 = .ok (.aload_n 0, 1) := by decide +kernel
theorem dL_law_797 : decode cL_law 797 = .ok (.iload_n 3, 1) := by decide +kernel
theorem dL_law_798 : decode cL_law 798 = .ok (.iconst 1, 1) := by decide +kernel
theorem dL_law_799 : decode cL_law 799 = .ok (.iadd, 1) := by decide +kernel
theorem dL_law_800 : decode cL_law 800 = .ok (.iaload, 1) := by decide +kernel
theorem dL_law_801 : decode cL_law 801 = .ok (.aload_n 0, 1) := by decide +kernel
theorem dL_law_802 : decode cL_law 802 = .ok (.iload_n 3, 1) := by decide +kernel
theorem dL_law_803 : decode cL_law 803 = .ok (.iconst 2, 1) := by decide +kernel
theorem dL_law_804 : decode cL_law 804 = .ok (.iadd, 1) := by decide +kernel
theorem dL_law_805 : decode cL_law 805 = .ok (.iaload, 1) := by decide +kernel
theorem dL_law_806 : decode cL_law 806 = .ok (.invokevirtual 109, 3) := by decide +kernel
theorem dL_law_809 : decode cL_law 809 = .ok (.aload_n 2, 1) := by decide +kernel
theorem dL_law_810 : decode cL_law 810 = .ok (.aload_n 0, 1) := by decide +kernel
theorem dL_law_811 : decode cL_law 811 = .ok (.iload_n 3, 1) := by decide +kernel
theorem dL_law_812 : decode cL_law 812 = .ok (.iconst 1, 1) := by decide +kernel
theorem dL_law_813 : decode cL_law 813 = .ok (.iadd, 1) := by decide +kernel
theorem dL_law_814 : decode cL_law 814 = .ok (.iaload, 1) := by decide +kernel
theorem dL_law_815 : decode cL_law 815 = .ok (.aload_n 0, 1) := by decide +kernel
theorem dL_law_816 : decode cL_law 816 = .ok (.iload_n 3, 1) := by decide +kernel
theorem dL_law_817 : decode cL_law 817 = .ok (.iconst 2, 1) := by decide +kernel
theorem dL_law_818 : decode cL_law 818 = .ok (.iadd, 1) := by decide +kernel
theorem dL_law_819 : decode cL_law 819 = .ok (.iaload, 1) := by decide +kernel
theorem dL_law_820 : decode cL_law 820 = .ok (.invokevirtual 112, 3) := by decide +kernel
theorem dL_law_823 : decode cL_law 823 = .ok (.if_icmp .eq 84, 3) := by decide +kernel
theorem dL_law_826 : decode cL_law 826 = .ok (.iconst 0, 1) := by decide +kernel
theorem dL_law_827 : decode cL_law 827 = .ok (.ireturn, 1) := by decide +kernel
theorem dL_law_828 : decode cL_law 828 = .ok (.aload_n 1, 1) := by decide +kernel
theorem dL_law_829 : decode cL_law 829 = .ok (.aload_n 0, 1) := by decide +kernel
theorem dL_law_830 : decode cL_law 830 = .ok (.iload_n 3, 1) := by decide +kernel
theorem dL_law_831 : decode cL_law 831 = .ok (.iconst 1, 1) := by decide +kernel
theorem dL_law_832 : decode cL_law 832 = .ok (.iadd, 1) := by decide +kernel
theorem dL_law_833 : decode cL_law 833 = .ok (.iaload, 1) := by decide +kernel
theorem dL_law_834 : decode cL_law 834 = .ok (.aload_n 0, 1) := by decide +kernel
theorem dL_law_835 : decode cL_law 835 = .ok (.iload_n 3, 1) := by decide +kernel
theorem dL_law_836 : decode cL_law 836 = .ok (.iconst 2, 1) := by decide +kernel
theorem dL_law_837 : decode cL_law 837 = .ok (.iadd, 1) := by decide +kernel
theorem dL_law_838 : decode cL_law 838 = .ok (.iaload, 1) := by decide +kernel
theorem dL_law_839 : decode cL_law 839 = .ok (.invokevirtual 113, 3) := by decide +kernel
theorem dL_law_842 : decode cL_law 842 = .ok (.aload_n 2, 1) := by decide +kernel
theorem dL_law_843 : decode cL_law 843 = .ok (.aload_n 0, 1) := by decide +kernel
theorem dL_law_844 : decode cL_law 844 = .ok (.iload_n 3, 1) := by decide +kernel
theorem dL_law_845 : decode cL_law 845 = .ok (.iconst 1, 1) := by decide +kernel
theorem dL_law_846 : decode cL_law 846 = .ok (.iadd, 1) := by decide +kernel
theorem dL_law_847 : decode cL_law 847 = .ok (.iaload, 1) := by decide +kernel
theorem dL_law_848 : decode cL_law 848 = .ok (.aload_n 0, 1) := by decide +kernel
theorem dL_law_849 : decode cL_law 849 = .ok (.iload_n 3, 1) := by decide +kernel
theorem dL_law_850 : decode cL_law 850 = .ok (.iconst 2, 1) := by decide +kernel
theorem dL_law_851 : decode cL_law 851 = .ok (.iadd, 1) := by decide +kernel
theorem dL_law_852 : decode cL_law 852 = .ok (.iaload, 1) := by decide +kernel
theorem dL_law_853 : decode cL_law 853 = .ok (.invokevirtual 116, 3) := by decide +kernel
theorem dL_law_856 : decode cL_law 856 = .ok (.if_icmp .eq 51, 3) := by decide +kernel
theorem dL_law_859 : decode cL_law 859 = .ok (.iconst 0, 1) := by decide +kernel
theorem dL_law_860 : decode cL_law 860 = .ok (.ireturn, 1) := by decide +kernel
theorem dL_law_861 : decode cL_law 861 = .ok (.aload_n 1, 1) := by decide +kernel
theorem dL_law_862 : decode cL_law 862 = .ok (.aload_n 0, 1) := by decide +kernel
theorem dL_law_863 : decode cL_law 863 = .ok (.iload_n 3, 1) := by decide +kernel
theorem dL_law_864 : decode cL_law 864 = .ok (.iconst 1, 1) := by decide +kernel
theorem dL_law_865 : decode cL_law 865 = .ok (.iadd, 1) := by decide +kernel
theorem dL_law_866 : decode cL_law 866 = .ok (.iaload, 1) := by decide +kernel
theorem dL_law_867 : decode cL_law 867 = .ok (.aload_n 0, 1) := by decide +kernel
theorem dL_law_868 : decode cL_law 868 = .ok (.iload_n 3, 1) := by decide +kernel
theorem dL_law_869 : decode cL_law 869 = .ok (.iconst 2, 1) := by decide +kernel
theorem dL_law_870 : decode cL_law 870 = .ok (.iadd, 1) := by decide +kernel
theorem dL_law_871 : decode cL_law 871 = .ok (.iaload, 1) := by decide +kernel
theorem dL_law_872 : decode cL_law 872 = .ok (.invokevirtual 117, 3) := by decide +kernel
theorem dL_law_875 : decode cL_law 875 = .ok (.aload_n 2, 1) := by decide +kernel
theorem dL_law_876 : decode cL_law 876 = .ok (.aload_n 0, 1) := by decide +kernel
theorem dL_law_877 : decode cL_law 877 = .ok (.iload_n 3, 1) := by decide +kernel
theorem dL_law_878 : decode cL_law 878 = .ok (.iconst 1, 1) := by decide +kernel
theorem dL_law_879 : decode cL_law 879 = .ok (.iadd, 1) := by decide +kernel
theorem dL_law_880 : decode cL_law 880 = .ok (.iaload, 1) := by decide +kernel
theorem dL_law_881 : decode cL_law 881 = .ok (.aload_n 0, 1) := by decide +kernel
theorem dL_law_882 : decode cL_law 882 = .ok (.iload_n 3, 1) := by decide +kernel
theorem dL_law_883 : decode cL_law 883 = .ok (.iconst 2, 1) := by decide +kernel
theorem dL_law_884 : decode cL_law 884 = .ok (.iadd, 1) := by decide +kernel
theorem dL_law_885 : decode cL_law 885 = .ok (.iaload, 1) := by decide +kernel
theorem dL_law_886 : decode cL_law 886 = .ok (.invokevirtual 120, 3) := by decide +kernel
theorem dL_law_889 : decode cL_law 889 = .ok (.if_icmp .eq 18, 3) := by decide +kernel
theorem dL_law_892 : decode cL_law 892 = .ok (.iconst 0, 1) := by decide +kernel
theorem dL_law_893 : decode cL_law 893 = .ok (.ireturn, 1) := by decide +kernel
theorem dL_law_894 : decode cL_law 894 = .ok (.aload_n 1, 1) := by decide +kernel
theorem dL_law_895 : decode cL_law 895 = .ok (.invokevirtual 121, 3) := by decide +kernel
theorem dL_law_898 : decode cL_law 898 = .ok (.aload_n 2, 1) := by decide +kernel
theorem dL_law_899 : decode cL_law 899 = .ok (.invokevirtual 124, 3) := by decide +kernel
theorem dL_law_902 : decode cL_law 902 = .ok (.if_icmp .eq 5, 3) := by decide +kernel
theorem dL_law_905 : decode cL_law 905 = .ok (.iconst 0, 1) := by decide +kernel
theorem dL_law_906 : decode cL_law 906 = .ok (.ireturn, 1) := by decide +kernel
theorem dL_law_907 : decode cL_law 907 = .ok (.iinc 3 4, 3) := by decide +kernel
theorem dL_law_910 : decode cL_law 910 = .ok (.goto (-892), 3) := by decide +kernel
theorem dL_law_913 : decode cL_law 913 = .ok (.iconst 1, 1) := by decide +kernel
theorem dL_law_914 : decode cL_law 914 = .ok (.ireturn, 1) := by decide +kernel
end
section
/-! THE LAYER: an abstract world (places instead of addresses) and one row an instruction over it -/
-- environment: class numbers, array classes (0 int[], 1 int[][], 2 State[]), the first address of the run's own cells, the read-only arrays (0..3 the class's constants, 4 the script), the script's length and content
abbrev EV : Type := va_G × (Nat → ClassId) × Nat × (Nat → Nat) × Nat × (Nat → Int32)
def eD (E : EV) : va_G := E.1
def eC (E : EV) : Nat → ClassId := E.2.1
def eB (E : EV) : Nat := E.2.2.1
def eT (E : EV) : Nat → Nat := E.2.2.2.1
def eN (E : EV) : Nat → Nat := fun k => match k with | 0 => 3 | 1 => 3 | 2 => 3 | 3 => 5 | _ => E.2.2.2.2.1
def eF (E : EV) : Nat → Nat → Int32 := fun k => match k with
  | 0 => fun j => [10, 0, 100].getD j 0
  | 1 => fun j => [2, 0, 1].getD j 0
  | 2 => fun j => [50, 2, 200].getD j 0
  | 3 => fun j => [0, -1, 1, -2, 2].getD j 0
  | _ => E.2.2.2.2.2
def eA (E : EV) : Nat → Prop := fun q => eB E ≤ q
def ad (E : EV) (p : Nat) : Nat := if p < 5 then eT E p else eB E + (p - 5)
def cv (E : EV) (v : Value) : Value := match v with
  | .ref p => .ref (ad E p)
  | w => w
theorem cv_int (E : EV) (x : Int32) : cv E (.int x) = .int x := rfl
theorem cv_ref (E : EV) (p : Nat) : cv E (.ref p) = .ref (ad E p) := rfl
theorem cv_null (E : EV) : cv E .null = .null := rfl
theorem ad_in {E : EV} {p : Nat} (h : 5 ≤ p) : ad E p = eB E + (p - 5) := if_neg (by omega)
theorem ad_inj {E : EV} {p q : Nat} (hp : 5 ≤ p) (hq : 5 ≤ q) (h : ad E p = ad E q) : p = q := by
  rw [ad_in hp, ad_in hq] at h
  omega
/-- a cell: an array of ints, an array of places, or an object (its class's number, its fields) -/
abbrev AC : Type := (Nat × Nat × ((Nat → Int32) ⊕ (Nat → Option Nat))) ⊕ (Nat × List Value)
abbrev cI (n : Nat) (f : Nat → Int32) : AC := .inl (0, n, .inl f)
abbrev cG (t n : Nat) (g : Nat → Option Nat) : AC := .inl (t, n, .inr g)
abbrev cO (ci : Nat) (fs : List Value) : AC := .inr (ci, fs)
abbrev HP : Type := Nat → Option AC
def cc (E : EV) : AC → va_E
  | .inl (t, n, .inl f) => .inl (eC E t, n, .inl f)
  | .inl (t, n, .inr g) => .inl (eC E t, n, .inr (.inr (.inr (.inr (fun i => (g i).map (ad E))))))
  | .inr (ci, fs) => .inr (ci, fs.map (cv E))
def hset (h : HP) (a : Nat) (c : AC) : HP := fun q => if q = a then some c else h q
theorem hset_eq (h : HP) (a : Nat) (c : AC) : hset h a c a = some c := if_pos rfl
theorem hset_ne (h : HP) {a q : Nat} (c : AC) (e : q ≠ a) : hset h a c q = h q := if_neg e
abbrev tysE (E : EV) : List (ClassId × FieldType) := [(eC E 0, .int), (eC E 1, .array .int), (eC E 2, .object RX8)]
/-- the heap holds the world h, n places of it -/
def Wd (E : EV) (n : Nat) (h : HP) (H : Heap) : Prop :=
  5 ≤ n ∧ H.size = eB E + (n - 5) ∧ (∀ p c, h p = some c → 5 ≤ p ∧ p < n ∧ va_at (eD E) vwCl (ad E p, cc E c) H) ∧ ∀ p, 5 ≤ p → p < n → (h p).isSome = true
/-- the words that a method may hand to its callees; those of nests and casts go with the world -/
def tbG : List Cond := lw_tbl.filter goodWord
def nestQ : Cond → Bool
  | .fieldLinkNest .. => true
  | .methodLinkNest .. => true
  | .castable .. => true
  | .arrayOver _ => true
  | _ => false
theorem tbG_in {w : Cond} (h : w ∈ tbG) : w ∈ lw_tbl := (List.mem_filter.mp h).1
theorem nest_moved {w : Cond} (hq : nestQ w = true) {u U : State} (hW : u.WarmedH U.vm) (h : va_Nw w u) : va_Nw w U := by
  cases w <;> first | (cases hq; done) | exact va_Nw.warmF hW h | exact va_Nw.warmM hW h | exact va_Nw.warmC hW h | exact (Cond.arrayOver_setVmC (args := #[]) hW.alike _).trans h
/-- what is read only -/
def Ks (E : EV) (U : State) : Prop :=
  va_K (eD E) vwCl (tysE E) U ∧ (va_Z RX9 "FIRST_NUMBERS" "[I" (.ref (eT E 0)) (eA E) U U.heap ∧ va_Z RX9 "LEAST_NUMBERS" "[I" (.ref (eT E 1)) (eA E) U U.heap ∧ va_Z RX9 "MOST_NUMBERS" "[I" (.ref (eT E 2)) (eA E) U U.heap ∧ va_Z RX9 "SHIFTS" "[I" (.ref (eT E 3)) (eA E) U U.heap) ∧
  (∀ k, k < 5 → va_T .int (eT E k) (eN E k) (fun j => .int (eF E k j)) (eA E) U U.heap) ∧
  U.heap[eT E 0]? = some (vp_cell (eC E 0) (3, .inl (eF E 0))) ∧ (∀ w ∈ lw_tbl, nestQ w = true → va_Nw w U) ∧ eB E ≤ U.heap.size
theorem Ks.moved {E : EV} {u U : State} (h : Ks E u) (hW : u.WarmedH U.vm) (hz : u.heap.size ≤ U.heap.size) (hk : ∀ a : Nat, a < u.heap.size → ¬ eA E a → U.heap[a]? = u.heap[a]?) : Ks E U := by
  obtain ⟨h1, ⟨z0, z1, z2, z3⟩, h3, h4, h5, h6⟩ := h
  have hvm := hW.alike
  have ha : ¬ eA E (eT E 0) := (h3 0 (by decide)).choose_spec.2.2.2.2.2.2
  exact ⟨h1.moved hvm, ⟨(z0.moved hvm).kept hk, (z1.moved hvm).kept hk, (z2.moved hvm).kept hk, (z3.moved hvm).kept hk⟩, fun k hk' => ((h3 k hk').moved hvm).kept hk, by rw [hk _ (Array.getElem?_eq_some_iff.mp h4).1 ha]; exact h4, fun w hw hq => nest_moved hq hW (h5 w hw hq), Nat.le_trans h6 hz⟩
theorem Ks.nest {E : EV} {s : State} (h : Ks E s) {w : Cond} (hw : w ∈ lw_tbl) (hq : nestQ w = true) {args : Array Value} : w.before args s = true := by
  have h1 := h.2.2.2.2.1 w hw hq
  cases w <;> first | (cases hq; done) | exact va_Nw.use rfl h1 | exact h1
/-- the locals -/
def lvr (E : EV) (nL : Nat) (ls : Array Slot) (L : List (Option Value)) : Prop :=
  ls.size = nL ∧ lv_wf ls ∧ L.length = nL ∧ ∀ (i : Nat) (v : Value), L[i]? = some (some v) → ls[i]? = some (Slot.val (cv E v)) ∧ v.category = 1
abbrev CX : Type := Program × Launch × Env × Room × State × MethodId × Array Value × List Frame × Method × Code × (State → Prop) × EV × Nat
abbrev CX.l (X : CX) : Launch := X.2.1
abbrev CX.E (X : CX) : EV := X.2.2.2.2.2.2.2.2.2.2.2.1
def AW (X : CX) (n : Nat) (h : HP) (k sl pc : Nat) (L : List (Option Value)) (st : List Value) : Prop :=
  match X with
  | (p, l, e, R, s, m, args, below, meth, c, Q, E, nL) =>
    ∀ (H : Heap) (locs : List Loc) (ls : Array Slot), Wd E n h H → va_S (eA E) s.heap H locs → H.size = s.heap.size + k → lvr E nL ls L →
      W p l e R s m args below meth c H locs k sl Q (F0 m pc ls (st.map (cv E)))
/-- what a method answers -/
def AQ (E : EV) (n : Nat) (post : Option Value → HP → Prop) : Array Value → State → Outcome → State → Prop := fun _ st oc t =>
  (∃ (v : Option Value) (h : HP), oc = .returned (v.map (cv E)) ∧ post v h ∧ Wd E n h t.heap) ∧ va_F (eA E) st t
abbrev rmA (fr lo mc ms : Nat) : Room := { frames := fr, cells := mc, slots := ms, locals := lo }
/-- what a body knows -/
def Cx (X : CX) (own : String) (bytes : ByteArray) (ret : Option FieldType) (fr lo mc ms n1 : Nat) (post : Option Value → HP → Prop) : Prop :=
  match X with
  | (p, _, _, R, s, m, args, below, meth, c, Q, E, nL) =>
    p.tables.exec = Jvm.exec ∧ c.code = bytes ∧ c.maxLocals = nL ∧ s.vm.findClass own = some m.cls ∧ (∀ w ∈ tbG, w.before args s = true) ∧ Ks E s ∧ meth.locks = false ∧ meth.sig.returnType = ret ∧ R = rmA fr lo mc ms ∧ Q = MQ below (AQ E n1 post) args s mc ms (eA E)
/-- a method's contract over the abstract world -/
def AM (l : Launch) (y : MethodName) (bytes : ByteArray) (nL : Nat) (ret : Option FieldType) (fr lo mc ms : Nat) (E : EV) (n : Nat) (h : HP) (As : List Value) (post : Option Value → HP → Prop) : Prop :=
  Met l y (.code y bytes nL ret :: tbG) (rmA fr lo mc ms) (va_Pc (As.map (cv E)) (fun U => Wd E n h U.heap ∧ Ks E U)) (AQ E (n + mc) post) mc ms (eA E)
theorem lg_sl_one : ∀ (vs : List Value), (∀ v ∈ vs, v.category = 1) → lg_sl vs = vs.map Slot.val
  | [], _ => rfl
  | v :: vs, h => by
    have h1 : v.category = 1 := h v List.mem_cons_self
    have h2 := lg_sl_one vs (fun w hw => h w (List.mem_cons_of_mem _ hw))
    cases v <;> first | (simp [lg_sl, h2]; done) | (exact absurd h1 (by decide)) | simp_all [lg_sl, Value.category]
theorem cv_cat (E : EV) (v : Value) : (cv E v).category = v.category := by cases v <;> rfl
theorem tysE_at (E : EV) {t : Nat} (h : t < 3) : ∃ ty, (tysE E)[t]? = some (eC E t, ty) := by
  match t, h with
  | 0, _ => exact ⟨_, rfl⟩
  | 1, _ => exact ⟨_, rfl⟩
  | 2, _ => exact ⟨_, rfl⟩
theorem cc_set (E : EV) (ci : Nat) (fs : List Value) (k : Nat) {v : Value} : cc E (cO ci (fs.set k v)) = .inr (ci, (fs.map (cv E)).set k (cv E v)) := by
  show Sum.inr (ci, (fs.set k v).map (cv E)) = _
  rw [List.map_set]
/-- the locals as the kit's list -/
def asl (E : EV) (L : List (Option Value)) : List (Nat × Value) := (List.range L.length).filterMap (fun i => match L[i]? with
  | some (some v) => some (i, cv E v)
  | _ => none)
theorem mem_asl {E : EV} {L : List (Option Value)} {i : Nat} {v : Value} (h : L[i]? = some (some v)) : (i, cv E v) ∈ asl E L := by
  refine List.mem_filterMap.mpr ⟨i, List.mem_range.mpr (List.getElem?_eq_some_iff.mp h).1, ?_⟩
  simp only [h]
theorem of_asl {E : EV} {L : List (Option Value)} {q : Nat × Value} (h : q ∈ asl E L) : ∃ v, L[q.1]? = some (some v) ∧ q.2 = cv E v := by
  obtain ⟨i, -, hi⟩ := List.mem_filterMap.mp h
  split at hi
  · rename_i v hv
    cases hi
    exact ⟨v, hv, rfl⟩
  · cases hi
theorem lvr.has {E : EV} {nL : Nat} {ls : Array Slot} {L : List (Option Value)} (h : lvr E nL ls L) : lv_has ls nL (asl E L) := by
  refine ⟨h.1, h.2.1, fun q hq => ?_⟩
  obtain ⟨v, h1, h2⟩ := of_asl hq
  rw [h2]
  exact (h.2.2.2 _ _ h1).1
theorem lvr.put {E : EV} {nL i : Nat} {ls ls' : Array Slot} {L : List (Option Value)} {v : Value} (h : lvr E nL ls L) (hi : i < L.length) (hc : v.category = 1) (h' : lv_has ls' nL ((i, cv E v) :: (asl E L).filter (fun q => !(q.1 == i) && !(q.1 + 1 == i && q.2.category == 2)))) : lvr E nL ls' (L.set i (some v)) := by
  refine ⟨h'.1, h'.2.1, by rw [List.length_set]; exact h.2.2.1, fun j w hj => ?_⟩
  by_cases e : j = i
  · subst e
    rw [List.getElem?_set_self hi] at hj
    cases hj
    exact ⟨h'.2.2 _ List.mem_cons_self, hc⟩
  · rw [List.getElem?_set_ne (Ne.symm e)] at hj
    obtain ⟨h1, h2⟩ := h.2.2.2 j w hj
    refine ⟨h'.2.2 (j, cv E w) (List.mem_cons_of_mem _ (List.mem_filter.mpr ⟨mem_asl hj, ?_⟩)), h2⟩
    have h3 : (cv E w).category = 1 := (cv_cat E w).trans h2
    simp [e, h3]
theorem W.sz {p : Program} {l : Launch} {e : Env} {R : Room} {s : State} {m : MethodId} {args : Array Value} {below : List Frame} {meth : Method} {c : Code} {H : Heap} {locs : List Loc} {cells slots : Nat} {Q : State → Prop} {g : JFrame} (kk : H.size ≤ s.heap.size + cells → W p l e R s m args below meth c H locs cells slots Q g) : W p l e R s m args below meth c H locs cells slots Q g := by
  intro T hT X
  have h := X.heapSize
  rw [hT] at h
  exact kk h T hT X
theorem cc_at_lt {E : EV} {p : Nat} {c : AC} {H : Heap} (h : va_at (eD E) vwCl (ad E p, cc E c) H) : ad E p < H.size := va_at.lt h
/-- the world as a list; behind a write to one of its cells the world again -/
theorem Wd.all {E : EV} {n : Nat} {h : HP} {H : Heap} (hW : Wd E n h H) :
    ∃ ws : va_W, va_P (eD E) vwCl ws H ∧ va_D (eA E) ws ∧ (∀ (p : Nat) (c : AC), h p = some c → ∃ j : Nat, ws[j]? = some (ad E p, cc E c)) ∧
      ∀ (a : Nat) (c : AC) (q0 : Nat), h a = some c → ws[q0]? = some (ad E a, cc E c) → ∀ (c' : AC) (H1 : Heap), va_P (eD E) vwCl (ws.set q0 (ad E a, cc E c')) H1 → H1.size ≤ H.size → Wd E n (hset h a c') H1 ∧ H1.size = H.size := by
  obtain ⟨h5, hz, hc, hf⟩ := hW
  let F : Nat → Option (Nat × va_E) := fun p => (h p).map (fun c => (ad E p, cc E c))
  have hmem : ∀ q, q ∈ (List.range n).filterMap F ↔ ∃ p c, h p = some c ∧ q = (ad E p, cc E c) := by
    intro q
    rw [List.mem_filterMap]
    constructor
    · rintro ⟨p, -, hp⟩
      obtain ⟨c, h1, h2⟩ := Option.map_eq_some_iff.mp hp
      exact ⟨p, c, h1, h2.symm⟩
    · rintro ⟨p, c, h1, rfl⟩
      exact ⟨p, List.mem_range.mpr (hc p c h1).2.1, Option.map_eq_some_iff.mpr ⟨c, h1, rfl⟩⟩
  have hnd : ((List.range n).filterMap F).Pairwise (fun x y => x.1 ≠ y.1) := by
    rw [List.pairwise_filterMap]
    refine List.Pairwise.imp_of_mem ?_ List.nodup_range
    intro i j hi hj hij x hx y hy
    obtain ⟨ci, h1, h2⟩ := Option.map_eq_some_iff.mp hx
    obtain ⟨cj, h3, h4⟩ := Option.map_eq_some_iff.mp hy
    rw [← h2, ← h4]
    intro e
    exact hij (ad_inj (hc i ci h1).1 (hc j cj h3).1 e)
  have hD : va_D (eA E) ((List.range n).filterMap F) := by
    refine ⟨fun i j x y hi hj hxy => ?_, fun k q hk => ?_⟩
    · rw [List.pairwise_iff_getElem] at hnd
      obtain ⟨li, ei⟩ := List.getElem?_eq_some_iff.mp hi
      obtain ⟨lj, ej⟩ := List.getElem?_eq_some_iff.mp hj
      rcases Nat.lt_trichotomy i j with w | w | w
      · exact absurd hxy (by rw [← ei, ← ej]; exact hnd i j li lj w)
      · exact w
      · exact absurd hxy.symm (by rw [← ei, ← ej]; exact hnd j i lj li w)
    · obtain ⟨p, c, h1, rfl⟩ := (hmem q).mp (List.mem_of_getElem? hk)
      show eB E ≤ ad E p
      rw [ad_in (hc p c h1).1]
      omega
  refine ⟨(List.range n).filterMap F, fun k q hk => ?_, hD, fun p c hp => List.getElem?_of_mem ((hmem _).mpr ⟨p, c, hp, rfl⟩), fun a c q0 hh hq0 c' H1 hP1 hz1 => ?_⟩
  · obtain ⟨p, c, h1, rfl⟩ := (hmem q).mp (List.mem_of_getElem? hk)
    exact (hc p c h1).2.2
  · have hl := (List.getElem?_eq_some_iff.mp hq0).1
    have hc1 : ∀ p c, hset h a c' p = some c → 5 ≤ p ∧ p < n ∧ va_at (eD E) vwCl (ad E p, cc E c) H1 := by
      intro p c1 hp
      by_cases e : p = a
      · subst e
        rw [hset_eq] at hp
        cases hp
        exact ⟨(hc _ _ hh).1, (hc _ _ hh).2.1, hP1 q0 _ (List.getElem?_set_self hl)⟩
      · rw [hset_ne h c' e] at hp
        obtain ⟨g1, g2, g3⟩ := hc p c1 hp
        obtain ⟨j, hj⟩ := List.getElem?_of_mem ((hmem _).mpr ⟨p, c1, hp, rfl⟩)
        refine ⟨g1, g2, hP1 j _ ?_⟩
        rw [List.getElem?_set_ne ?_]
        · exact hj
        · intro e2
          subst e2
          rw [hq0] at hj
          have := congrArg (fun z : Option (Nat × va_E) => z.map Prod.fst) hj
          simp only [Option.map_some, Option.some.injEq] at this
          exact e (ad_inj g1 (hc _ _ hh).1 this.symm)
    have hf1 : ∀ p, 5 ≤ p → p < n → (hset h a c' p).isSome = true := by
      intro p g1 g2
      by_cases e : p = a
      · rw [e, hset_eq]; rfl
      · rw [hset_ne h c' e]; exact hf p g1 g2
    have hsz : H1.size = H.size := by
      have hn : 5 < n := by have := hc _ _ hh; omega
      have h1 := hf1 (n - 1) (by omega) (by omega)
      obtain ⟨c1, hc2⟩ := Option.isSome_iff_exists.mp h1
      have h2 := cc_at_lt (hc1 _ _ hc2).2.2
      rw [ad_in (by omega)] at h2
      omega
    exact ⟨⟨h5, by rw [hsz]; exact hz, hc1, hf1⟩, hsz⟩
theorem Wd.list {E : EV} {n : Nat} {h : HP} {H : Heap} (hW : Wd E n h H) {a : Nat} {c : AC} (hh : h a = some c) :
    ∃ (ws : va_W) (q0 : Nat), va_P (eD E) vwCl ws H ∧ va_D (eA E) ws ∧ ws[q0]? = some (ad E a, cc E c) ∧
      ∀ (c' : AC) (H1 : Heap), va_P (eD E) vwCl (ws.set q0 (ad E a, cc E c')) H1 → H1.size ≤ H.size → Wd E n (hset h a c') H1 ∧ H1.size = H.size := by
  obtain ⟨ws, hP, hD, hm, hb⟩ := hW.all
  obtain ⟨q0, hq⟩ := hm a c hh
  exact ⟨ws, q0, hP, hD, hq, hb a c q0 hh hq⟩
/-- a cell more -/
theorem Wd.grow {E : EV} {n : Nat} {h : HP} {H H1 : Heap} {ws : va_W} {q : Nat} {c : AC} (hW : Wd E n h H) (hm : ∀ (p : Nat) (c : AC), h p = some c → ∃ j : Nat, ws[j]? = some (ad E p, cc E c))
    (hP : va_P (eD E) vwCl (ws ++ [(q, cc E c)]) H1) (hD : va_D (eA E) (ws ++ [(q, cc E c)])) (hz1 : H1.size ≤ H.size + 1) : q = ad E n ∧ Wd E (n + 1) (hset h n c) H1 ∧ H1.size = H.size + 1 := by
  obtain ⟨h5, hz, hc, hf⟩ := hW
  have hlast : (ws ++ [(q, cc E c)])[ws.length]? = some (q, cc E c) := by rw [List.getElem?_append_right (Nat.le_refl _), Nat.sub_self]; rfl
  have hold : ∀ (j : Nat) (x : Nat × va_E), ws[j]? = some x → (ws ++ [(q, cc E c)])[j]? = some x := fun j x hj => by
    rw [List.getElem?_append_left (List.getElem?_eq_some_iff.mp hj).1]; exact hj
  have hq1 : q < H1.size := (hP _ _ hlast).lt
  have hq2 : eB E ≤ q := hD.2 _ _ hlast
  have hq3 : ¬ q < eB E + (n - 5) := by
    intro hlt
    have hp := hf (q - eB E + 5) (by omega) (by omega)
    obtain ⟨c1, hc1⟩ := Option.isSome_iff_exists.mp hp
    obtain ⟨j, hj⟩ := hm _ _ hc1
    have e : (ad E (q - eB E + 5)) = q := by rw [ad_in (by omega)]; omega
    have := hD.1 j ws.length _ _ (hold _ _ hj) hlast e
    have := (List.getElem?_eq_some_iff.mp hj).1
    omega
  have hqe : q = ad E n := by rw [ad_in h5]; omega
  refine ⟨hqe, ⟨by omega, by rw [ad_in h5] at hqe; omega, fun p c1 hp => ?_, fun p g1 g2 => ?_⟩, by rw [ad_in h5] at hqe; omega⟩
  · by_cases e : p = n
    · subst e
      rw [hset_eq] at hp
      cases hp
      refine ⟨h5, by omega, ?_⟩
      rw [← hqe]
      exact hP _ _ hlast
    · rw [hset_ne h c e] at hp
      obtain ⟨g1, g2, g3⟩ := hc p c1 hp
      obtain ⟨j, hj⟩ := hm _ _ hp
      exact ⟨g1, by omega, hP _ _ (hold _ _ hj)⟩
  · by_cases e : p = n
    · rw [e, hset_eq]; rfl
    · rw [hset_ne h c e]; exact hf p g1 (by omega)
end
section
theorem aw_iconst {X : CX} {own : String} {bytes : ByteArray} {ret : Option FieldType} {fr lo mc ms n1 : Nat} {post : Option Value → HP → Prop} {n k sl pc : Nat} {h : HP} {L : List (Option Value)} {st : List Value} (hX : Cx X own bytes ret fr lo mc ms n1 post) {z : Int} (v : Int32) (hdg : decode bytes pc = .ok (.iconst z, 1)) (hv : Int32.ofInt z = v) (kk : AW X n h k sl (pc + 1) L (.int v :: st)) : AW X n h k sl pc L st := by
  obtain ⟨p, l, e, R, s, m, args, below, meth, c, Q, E, nL⟩ := X
  obtain ⟨hx, hb, hml, hown, hts, hK, hlk, hr, hR, hQ⟩ := hX
  intro H locs ls hW hS hz hl
  exact lv_iconst hx hb hdg hv (kk H locs ls hW hS hz hl)

theorem aw_bipush {X : CX} {own : String} {bytes : ByteArray} {ret : Option FieldType} {fr lo mc ms n1 : Nat} {post : Option Value → HP → Prop} {n k sl pc : Nat} {h : HP} {L : List (Option Value)} {st : List Value} (hX : Cx X own bytes ret fr lo mc ms n1 post) {z : Int} (v : Int32) (hdg : decode bytes pc = .ok (.bipush z, 2)) (hv : (Int8.ofInt z).toInt32 = v) (kk : AW X n h k sl (pc + 2) L (.int v :: st)) : AW X n h k sl pc L st := by
  obtain ⟨p, l, e, R, s, m, args, below, meth, c, Q, E, nL⟩ := X
  obtain ⟨hx, hb, hml, hown, hts, hK, hlk, hr, hR, hQ⟩ := hX
  intro H locs ls hW hS hz hl
  exact lv_bipush hx hb hdg hv (kk H locs ls hW hS hz hl)

theorem aw_sipush {X : CX} {own : String} {bytes : ByteArray} {ret : Option FieldType} {fr lo mc ms n1 : Nat} {post : Option Value → HP → Prop} {n k sl pc : Nat} {h : HP} {L : List (Option Value)} {st : List Value} (hX : Cx X own bytes ret fr lo mc ms n1 post) {z : Int} (v : Int32) (hdg : decode bytes pc = .ok (.sipush z, 3)) (hv : (Int16.ofInt z).toInt32 = v) (kk : AW X n h k sl (pc + 3) L (.int v :: st)) : AW X n h k sl pc L st := by
  obtain ⟨p, l, e, R, s, m, args, below, meth, c, Q, E, nL⟩ := X
  obtain ⟨hx, hb, hml, hown, hts, hK, hlk, hr, hR, hQ⟩ := hX
  intro H locs ls hW hS hz hl
  exact lv_sipush hx hb hdg hv (kk H locs ls hW hS hz hl)

theorem aw_iload_n {X : CX} {own : String} {bytes : ByteArray} {ret : Option FieldType} {fr lo mc ms n1 : Nat} {post : Option Value → HP → Prop} {n k sl pc : Nat} {h : HP} {L : List (Option Value)} {st : List Value} (hX : Cx X own bytes ret fr lo mc ms n1 post) {i : Fin 4} {x : Int32} (hdg : decode bytes pc = .ok (.iload_n i, 1)) (hv : L[(i : Nat)]? = some (some (.int x))) (kk : AW X n h k sl (pc + 1) L (.int x :: st)) : AW X n h k sl pc L st := by
  obtain ⟨p, l, e, R, s, m, args, below, meth, c, Q, E, nL⟩ := X
  obtain ⟨hx, hb, hml, hown, hts, hK, hlk, hr, hR, hQ⟩ := hX
  intro H locs ls hW hS hz hl
  exact lv_iload_n hx hb hdg rfl (hl.2.2.2 _ _ hv).1 (kk H locs ls hW hS hz hl)

theorem aw_iload {X : CX} {own : String} {bytes : ByteArray} {ret : Option FieldType} {fr lo mc ms n1 : Nat} {post : Option Value → HP → Prop} {n k sl pc : Nat} {h : HP} {L : List (Option Value)} {st : List Value} (hX : Cx X own bytes ret fr lo mc ms n1 post) {i : Nat} {x : Int32} (hdg : decode bytes pc = .ok (.iload i, 2)) (hv : L[i]? = some (some (.int x))) (kk : AW X n h k sl (pc + 2) L (.int x :: st)) : AW X n h k sl pc L st := by
  obtain ⟨p, l, e, R, s, m, args, below, meth, c, Q, E, nL⟩ := X
  obtain ⟨hx, hb, hml, hown, hts, hK, hlk, hr, hR, hQ⟩ := hX
  intro H locs ls hW hS hz hl
  exact lv_iload hx hb hdg (hl.2.2.2 _ _ hv).1 (kk H locs ls hW hS hz hl)

theorem aw_aload_n {X : CX} {own : String} {bytes : ByteArray} {ret : Option FieldType} {fr lo mc ms n1 : Nat} {post : Option Value → HP → Prop} {n k sl pc : Nat} {h : HP} {L : List (Option Value)} {st : List Value} (hX : Cx X own bytes ret fr lo mc ms n1 post) {i : Fin 4} {x : Nat} (hdg : decode bytes pc = .ok (.aload_n i, 1)) (hv : L[(i : Nat)]? = some (some (.ref x))) (kk : AW X n h k sl (pc + 1) L (.ref x :: st)) : AW X n h k sl pc L st := by
  obtain ⟨p, l, e, R, s, m, args, below, meth, c, Q, E, nL⟩ := X
  obtain ⟨hx, hb, hml, hown, hts, hK, hlk, hr, hR, hQ⟩ := hX
  intro H locs ls hW hS hz hl
  exact lv_aload_n hx hb hdg rfl (hl.2.2.2 _ _ hv).1 (kk H locs ls hW hS hz hl)

theorem aw_aload {X : CX} {own : String} {bytes : ByteArray} {ret : Option FieldType} {fr lo mc ms n1 : Nat} {post : Option Value → HP → Prop} {n k sl pc : Nat} {h : HP} {L : List (Option Value)} {st : List Value} (hX : Cx X own bytes ret fr lo mc ms n1 post) {i : Nat} {x : Nat} (hdg : decode bytes pc = .ok (.aload i, 2)) (hv : L[i]? = some (some (.ref x))) (kk : AW X n h k sl (pc + 2) L (.ref x :: st)) : AW X n h k sl pc L st := by
  obtain ⟨p, l, e, R, s, m, args, below, meth, c, Q, E, nL⟩ := X
  obtain ⟨hx, hb, hml, hown, hts, hK, hlk, hr, hR, hQ⟩ := hX
  intro H locs ls hW hS hz hl
  exact lv_aload hx hb hdg (hl.2.2.2 _ _ hv).1 (kk H locs ls hW hS hz hl)

theorem aw_istore_n {X : CX} {own : String} {bytes : ByteArray} {ret : Option FieldType} {fr lo mc ms n1 : Nat} {post : Option Value → HP → Prop} {n k sl pc : Nat} {h : HP} {L : List (Option Value)} {st : List Value} (hX : Cx X own bytes ret fr lo mc ms n1 post) {i : Fin 4} {x : Int32} (hdg : decode bytes pc = .ok (.istore_n i, 1)) (hi : (i : Nat) < L.length) (kk : AW X n h k sl (pc + 1) (L.set (i : Nat) (some (.int x))) st) : AW X n h k sl pc L (.int x :: st) := by
  obtain ⟨p, l, e, R, s, m, args, below, meth, c, Q, E, nL⟩ := X
  obtain ⟨hx, hb, hml, hown, hts, hK, hlk, hr, hR, hQ⟩ := hX
  intro H locs ls hW hS hz hl
  exact lv_istore_n hx hb hdg rfl hl.has (by rw [← hl.2.2.1]; exact hi) rfl (fun ls' h' => kk H locs ls' hW hS hz (lvr.put hl hi rfl h'))

theorem aw_istore {X : CX} {own : String} {bytes : ByteArray} {ret : Option FieldType} {fr lo mc ms n1 : Nat} {post : Option Value → HP → Prop} {n k sl pc : Nat} {h : HP} {L : List (Option Value)} {st : List Value} (hX : Cx X own bytes ret fr lo mc ms n1 post) {i : Nat} {x : Int32} (hdg : decode bytes pc = .ok (.istore i, 2)) (hi : i < L.length) (kk : AW X n h k sl (pc + 2) (L.set i (some (.int x))) st) : AW X n h k sl pc L (.int x :: st) := by
  obtain ⟨p, l, e, R, s, m, args, below, meth, c, Q, E, nL⟩ := X
  obtain ⟨hx, hb, hml, hown, hts, hK, hlk, hr, hR, hQ⟩ := hX
  intro H locs ls hW hS hz hl
  exact lv_istore hx hb hdg hl.has (by rw [← hl.2.2.1]; exact hi) rfl (fun ls' h' => kk H locs ls' hW hS hz (lvr.put hl hi rfl h'))

theorem aw_astore_n {X : CX} {own : String} {bytes : ByteArray} {ret : Option FieldType} {fr lo mc ms n1 : Nat} {post : Option Value → HP → Prop} {n k sl pc : Nat} {h : HP} {L : List (Option Value)} {st : List Value} (hX : Cx X own bytes ret fr lo mc ms n1 post) {i : Fin 4} {x : Nat} (hdg : decode bytes pc = .ok (.astore_n i, 1)) (hi : (i : Nat) < L.length) (kk : AW X n h k sl (pc + 1) (L.set (i : Nat) (some (.ref x))) st) : AW X n h k sl pc L (.ref x :: st) := by
  obtain ⟨p, l, e, R, s, m, args, below, meth, c, Q, E, nL⟩ := X
  obtain ⟨hx, hb, hml, hown, hts, hK, hlk, hr, hR, hQ⟩ := hX
  intro H locs ls hW hS hz hl
  exact lv_astore_n hx hb hdg rfl hl.has (by rw [← hl.2.2.1]; exact hi) rfl (fun ls' h' => kk H locs ls' hW hS hz (lvr.put hl hi rfl h'))

theorem aw_astore {X : CX} {own : String} {bytes : ByteArray} {ret : Option FieldType} {fr lo mc ms n1 : Nat} {post : Option Value → HP → Prop} {n k sl pc : Nat} {h : HP} {L : List (Option Value)} {st : List Value} (hX : Cx X own bytes ret fr lo mc ms n1 post) {i : Nat} {x : Nat} (hdg : decode bytes pc = .ok (.astore i, 2)) (hi : i < L.length) (kk : AW X n h k sl (pc + 2) (L.set i (some (.ref x))) st) : AW X n h k sl pc L (.ref x :: st) := by
  obtain ⟨p, l, e, R, s, m, args, below, meth, c, Q, E, nL⟩ := X
  obtain ⟨hx, hb, hml, hown, hts, hK, hlk, hr, hR, hQ⟩ := hX
  intro H locs ls hW hS hz hl
  exact lv_astore hx hb hdg hl.has (by rw [← hl.2.2.1]; exact hi) rfl (fun ls' h' => kk H locs ls' hW hS hz (lvr.put hl hi rfl h'))

theorem aw_iinc {X : CX} {own : String} {bytes : ByteArray} {ret : Option FieldType} {fr lo mc ms n1 : Nat} {post : Option Value → HP → Prop} {n k sl pc : Nat} {h : HP} {L : List (Option Value)} {st : List Value} (hX : Cx X own bytes ret fr lo mc ms n1 post) {i : Nat} {z : Int} {x : Int32} (v : Int32) (hdg : decode bytes pc = .ok (.iinc i z, 3)) (hv : L[i]? = some (some (.int x))) (hz2 : x + Int32.ofInt z = v) (kk : AW X n h k sl (pc + 3) (L.set i (some (.int v))) st) : AW X n h k sl pc L st := by
  obtain ⟨p, l, e, R, s, m, args, below, meth, c, Q, E, nL⟩ := X
  obtain ⟨hx, hb, hml, hown, hts, hK, hlk, hr, hR, hQ⟩ := hX
  intro H locs ls hW hS hz hl
  have hi : i < L.length := (List.getElem?_eq_some_iff.mp hv).1
  obtain ⟨q, hq⟩ := List.getElem?_of_mem (mem_asl (E := E) hv)
  exact lv_iinc hx hb hdg hl.has hq hz2 (by rw [← hl.2.2.1]; exact hi) rfl (fun ls' h' => kk H locs ls' hW hS hz (lvr.put hl hi rfl h'))

theorem aw_iadd {X : CX} {own : String} {bytes : ByteArray} {ret : Option FieldType} {fr lo mc ms n1 : Nat} {post : Option Value → HP → Prop} {n k sl pc : Nat} {h : HP} {L : List (Option Value)} {st : List Value} (hX : Cx X own bytes ret fr lo mc ms n1 post) {x y : Int32} (hdg : decode bytes pc = .ok (.iadd, 1)) (kk : AW X n h k sl (pc + 1) L (.int (x + y) :: st)) : AW X n h k sl pc L (.int y :: .int x :: st) := by
  obtain ⟨p, l, e, R, s, m, args, below, meth, c, Q, E, nL⟩ := X
  obtain ⟨hx, hb, hml, hown, hts, hK, hlk, hr, hR, hQ⟩ := hX
  intro H locs ls hW hS hz hl
  exact lv_iadd hx hb hdg (kk H locs ls hW hS hz hl)

theorem aw_isub {X : CX} {own : String} {bytes : ByteArray} {ret : Option FieldType} {fr lo mc ms n1 : Nat} {post : Option Value → HP → Prop} {n k sl pc : Nat} {h : HP} {L : List (Option Value)} {st : List Value} (hX : Cx X own bytes ret fr lo mc ms n1 post) {x y : Int32} (hdg : decode bytes pc = .ok (.isub, 1)) (kk : AW X n h k sl (pc + 1) L (.int (x - y) :: st)) : AW X n h k sl pc L (.int y :: .int x :: st) := by
  obtain ⟨p, l, e, R, s, m, args, below, meth, c, Q, E, nL⟩ := X
  obtain ⟨hx, hb, hml, hown, hts, hK, hlk, hr, hR, hQ⟩ := hX
  intro H locs ls hW hS hz hl
  exact lv_isub hx hb hdg (kk H locs ls hW hS hz hl)

theorem aw_imul {X : CX} {own : String} {bytes : ByteArray} {ret : Option FieldType} {fr lo mc ms n1 : Nat} {post : Option Value → HP → Prop} {n k sl pc : Nat} {h : HP} {L : List (Option Value)} {st : List Value} (hX : Cx X own bytes ret fr lo mc ms n1 post) {x y : Int32} (hdg : decode bytes pc = .ok (.imul, 1)) (kk : AW X n h k sl (pc + 1) L (.int (x * y) :: st)) : AW X n h k sl pc L (.int y :: .int x :: st) := by
  obtain ⟨p, l, e, R, s, m, args, below, meth, c, Q, E, nL⟩ := X
  obtain ⟨hx, hb, hml, hown, hts, hK, hlk, hr, hR, hQ⟩ := hX
  intro H locs ls hW hS hz hl
  exact lv_imul hx hb hdg (kk H locs ls hW hS hz hl)

theorem aw_iand {X : CX} {own : String} {bytes : ByteArray} {ret : Option FieldType} {fr lo mc ms n1 : Nat} {post : Option Value → HP → Prop} {n k sl pc : Nat} {h : HP} {L : List (Option Value)} {st : List Value} (hX : Cx X own bytes ret fr lo mc ms n1 post) {x y : Int32} (hdg : decode bytes pc = .ok (.iand, 1)) (kk : AW X n h k sl (pc + 1) L (.int (x &&& y) :: st)) : AW X n h k sl pc L (.int y :: .int x :: st) := by
  obtain ⟨p, l, e, R, s, m, args, below, meth, c, Q, E, nL⟩ := X
  obtain ⟨hx, hb, hml, hown, hts, hK, hlk, hr, hR, hQ⟩ := hX
  intro H locs ls hW hS hz hl
  exact lv_iand hx hb hdg (kk H locs ls hW hS hz hl)

theorem aw_ior {X : CX} {own : String} {bytes : ByteArray} {ret : Option FieldType} {fr lo mc ms n1 : Nat} {post : Option Value → HP → Prop} {n k sl pc : Nat} {h : HP} {L : List (Option Value)} {st : List Value} (hX : Cx X own bytes ret fr lo mc ms n1 post) {x y : Int32} (hdg : decode bytes pc = .ok (.ior, 1)) (kk : AW X n h k sl (pc + 1) L (.int (x ||| y) :: st)) : AW X n h k sl pc L (.int y :: .int x :: st) := by
  obtain ⟨p, l, e, R, s, m, args, below, meth, c, Q, E, nL⟩ := X
  obtain ⟨hx, hb, hml, hown, hts, hK, hlk, hr, hR, hQ⟩ := hX
  intro H locs ls hW hS hz hl
  exact lv_ior hx hb hdg (kk H locs ls hW hS hz hl)

theorem aw_ixor {X : CX} {own : String} {bytes : ByteArray} {ret : Option FieldType} {fr lo mc ms n1 : Nat} {post : Option Value → HP → Prop} {n k sl pc : Nat} {h : HP} {L : List (Option Value)} {st : List Value} (hX : Cx X own bytes ret fr lo mc ms n1 post) {x y : Int32} (hdg : decode bytes pc = .ok (.ixor, 1)) (kk : AW X n h k sl (pc + 1) L (.int (x ^^^ y) :: st)) : AW X n h k sl pc L (.int y :: .int x :: st) := by
  obtain ⟨p, l, e, R, s, m, args, below, meth, c, Q, E, nL⟩ := X
  obtain ⟨hx, hb, hml, hown, hts, hK, hlk, hr, hR, hQ⟩ := hX
  intro H locs ls hW hS hz hl
  exact lv_ixor hx hb hdg (kk H locs ls hW hS hz hl)

theorem aw_ishl {X : CX} {own : String} {bytes : ByteArray} {ret : Option FieldType} {fr lo mc ms n1 : Nat} {post : Option Value → HP → Prop} {n k sl pc : Nat} {h : HP} {L : List (Option Value)} {st : List Value} (hX : Cx X own bytes ret fr lo mc ms n1 post) {x y : Int32} (hdg : decode bytes pc = .ok (.ishl, 1)) (kk : AW X n h k sl (pc + 1) L (.int (x <<< (y &&& 31)) :: st)) : AW X n h k sl pc L (.int y :: .int x :: st) := by
  obtain ⟨p, l, e, R, s, m, args, below, meth, c, Q, E, nL⟩ := X
  obtain ⟨hx, hb, hml, hown, hts, hK, hlk, hr, hR, hQ⟩ := hX
  intro H locs ls hW hS hz hl
  exact lv_ishl hx hb hdg (kk H locs ls hW hS hz hl)

theorem aw_ishr {X : CX} {own : String} {bytes : ByteArray} {ret : Option FieldType} {fr lo mc ms n1 : Nat} {post : Option Value → HP → Prop} {n k sl pc : Nat} {h : HP} {L : List (Option Value)} {st : List Value} (hX : Cx X own bytes ret fr lo mc ms n1 post) {x y : Int32} (hdg : decode bytes pc = .ok (.ishr, 1)) (kk : AW X n h k sl (pc + 1) L (.int (x >>> (y &&& 31)) :: st)) : AW X n h k sl pc L (.int y :: .int x :: st) := by
  obtain ⟨p, l, e, R, s, m, args, below, meth, c, Q, E, nL⟩ := X
  obtain ⟨hx, hb, hml, hown, hts, hK, hlk, hr, hR, hQ⟩ := hX
  intro H locs ls hW hS hz hl
  exact lv_ishr hx hb hdg (kk H locs ls hW hS hz hl)

theorem aw_idiv {X : CX} {own : String} {bytes : ByteArray} {ret : Option FieldType} {fr lo mc ms n1 : Nat} {post : Option Value → HP → Prop} {n k sl pc : Nat} {h : HP} {L : List (Option Value)} {st : List Value} (hX : Cx X own bytes ret fr lo mc ms n1 post) {x y : Int32} (hdg : decode bytes pc = .ok (.idiv, 1)) (hne : ¬ y = 0) (kk : AW X n h k sl (pc + 1) L (.int (x / y) :: st)) : AW X n h k sl pc L (.int y :: .int x :: st) := by
  obtain ⟨p, l, e, R, s, m, args, below, meth, c, Q, E, nL⟩ := X
  obtain ⟨hx, hb, hml, hown, hts, hK, hlk, hr, hR, hQ⟩ := hX
  intro H locs ls hW hS hz hl
  exact lv_idiv hx hb hdg hne (kk H locs ls hW hS hz hl)

theorem aw_irem {X : CX} {own : String} {bytes : ByteArray} {ret : Option FieldType} {fr lo mc ms n1 : Nat} {post : Option Value → HP → Prop} {n k sl pc : Nat} {h : HP} {L : List (Option Value)} {st : List Value} (hX : Cx X own bytes ret fr lo mc ms n1 post) {x y : Int32} (hdg : decode bytes pc = .ok (.irem, 1)) (hne : ¬ y = 0) (kk : AW X n h k sl (pc + 1) L (.int (x - x / y * y) :: st)) : AW X n h k sl pc L (.int y :: .int x :: st) := by
  obtain ⟨p, l, e, R, s, m, args, below, meth, c, Q, E, nL⟩ := X
  obtain ⟨hx, hb, hml, hown, hts, hK, hlk, hr, hR, hQ⟩ := hX
  intro H locs ls hW hS hz hl
  exact lv_irem hx hb hdg hne (kk H locs ls hW hS hz hl)

theorem aw_iushr {X : CX} {own : String} {bytes : ByteArray} {ret : Option FieldType} {fr lo mc ms n1 : Nat} {post : Option Value → HP → Prop} {n k sl pc : Nat} {h : HP} {L : List (Option Value)} {st : List Value} (hX : Cx X own bytes ret fr lo mc ms n1 post) {x y : Int32} (hdg : decode bytes pc = .ok (.iushr, 1)) (kk : AW X n h k sl (pc + 1) L (.int ((x.toUInt32 >>> (y.toUInt32 &&& Int32.toUInt32 31)).toInt32) :: st)) : AW X n h k sl pc L (.int y :: .int x :: st) := by
  obtain ⟨p, l, e, R, s, m, args, below, meth, c, Q, E, nL⟩ := X
  obtain ⟨hx, hb, hml, hown, hts, hK, hlk, hr, hR, hQ⟩ := hX
  intro H locs ls hW hS hz hl
  exact lv_iushr hx hb hdg rfl (kk H locs ls hW hS hz hl)

theorem aw_ineg {X : CX} {own : String} {bytes : ByteArray} {ret : Option FieldType} {fr lo mc ms n1 : Nat} {post : Option Value → HP → Prop} {n k sl pc : Nat} {h : HP} {L : List (Option Value)} {st : List Value} (hX : Cx X own bytes ret fr lo mc ms n1 post) {x : Int32} (hdg : decode bytes pc = .ok (.ineg, 1)) (kk : AW X n h k sl (pc + 1) L (.int (-x) :: st)) : AW X n h k sl pc L (.int x :: st) := by
  obtain ⟨p, l, e, R, s, m, args, below, meth, c, Q, E, nL⟩ := X
  obtain ⟨hx, hb, hml, hown, hts, hK, hlk, hr, hR, hQ⟩ := hX
  intro H locs ls hW hS hz hl
  exact lv_ineg hx hb hdg (kk H locs ls hW hS hz hl)

theorem aw_dup {X : CX} {own : String} {bytes : ByteArray} {ret : Option FieldType} {fr lo mc ms n1 : Nat} {post : Option Value → HP → Prop} {n k sl pc : Nat} {h : HP} {L : List (Option Value)} {st : List Value} (hX : Cx X own bytes ret fr lo mc ms n1 post) {v : Value} (hdg : decode bytes pc = .ok (.dup, 1)) (hc : v.category = 1) (kk : AW X n h k sl (pc + 1) L (v :: v :: st)) : AW X n h k sl pc L (v :: st) := by
  obtain ⟨p, l, e, R, s, m, args, below, meth, c, Q, E, nL⟩ := X
  obtain ⟨hx, hb, hml, hown, hts, hK, hlk, hr, hR, hQ⟩ := hX
  intro H locs ls hW hS hz hl
  exact lv_dup hx hb hdg ((cv_cat E v).trans hc) (kk H locs ls hW hS hz hl)

theorem aw_dup2 {X : CX} {own : String} {bytes : ByteArray} {ret : Option FieldType} {fr lo mc ms n1 : Nat} {post : Option Value → HP → Prop} {n k sl pc : Nat} {h : HP} {L : List (Option Value)} {st : List Value} (hX : Cx X own bytes ret fr lo mc ms n1 post) {v w : Value} (hdg : decode bytes pc = .ok (.dup2, 1)) (hc : v.category = 1) (hd : w.category = 1) (kk : AW X n h k sl (pc + 1) L (v :: w :: v :: w :: st)) : AW X n h k sl pc L (v :: w :: st) := by
  obtain ⟨p, l, e, R, s, m, args, below, meth, c, Q, E, nL⟩ := X
  obtain ⟨hx, hb, hml, hown, hts, hK, hlk, hr, hR, hQ⟩ := hX
  intro H locs ls hW hS hz hl
  exact lv_dup2_11 hx hb hdg ((cv_cat E v).trans hc) ((cv_cat E w).trans hd) (kk H locs ls hW hS hz hl)

theorem aw_if_eq {X : CX} {own : String} {bytes : ByteArray} {ret : Option FieldType} {fr lo mc ms n1 : Nat} {post : Option Value → HP → Prop} {n k sl pc : Nat} {h : HP} {L : List (Option Value)} {st : List Value} (hX : Cx X own bytes ret fr lo mc ms n1 post) {x : Int32} {off : Int} (tgt : Nat) (hdg : decode bytes pc = .ok (.ifCond .eq off, 3)) (ht : (pc : Int) + off = (tgt : Int)) (kt : x = 0 → AW X n h k sl tgt L st) (kf : ¬ x = 0 → AW X n h k sl (pc + 3) L st)  : AW X n h k sl pc L (.int x :: st) := by
  obtain ⟨p, l, e, R, s, m, args, below, meth, c, Q, E, nL⟩ := X
  obtain ⟨hx, hb, hml, hown, hts, hK, hlk, hr, hR, hQ⟩ := hX
  intro H locs ls hW hS hz hl
  exact lv_if_eq hx hb hdg ht (fun q => kt q H locs ls hW hS hz hl) (fun q => kf q H locs ls hW hS hz hl)

theorem aw_if_ne {X : CX} {own : String} {bytes : ByteArray} {ret : Option FieldType} {fr lo mc ms n1 : Nat} {post : Option Value → HP → Prop} {n k sl pc : Nat} {h : HP} {L : List (Option Value)} {st : List Value} (hX : Cx X own bytes ret fr lo mc ms n1 post) {x : Int32} {off : Int} (tgt : Nat) (hdg : decode bytes pc = .ok (.ifCond .ne off, 3)) (ht : (pc : Int) + off = (tgt : Int)) (kt : ¬ x = 0 → AW X n h k sl tgt L st) (kf : x = 0 → AW X n h k sl (pc + 3) L st)  : AW X n h k sl pc L (.int x :: st) := by
  obtain ⟨p, l, e, R, s, m, args, below, meth, c, Q, E, nL⟩ := X
  obtain ⟨hx, hb, hml, hown, hts, hK, hlk, hr, hR, hQ⟩ := hX
  intro H locs ls hW hS hz hl
  exact lv_if_ne hx hb hdg ht (fun q => kt q H locs ls hW hS hz hl) (fun q => kf q H locs ls hW hS hz hl)

theorem aw_if_lt {X : CX} {own : String} {bytes : ByteArray} {ret : Option FieldType} {fr lo mc ms n1 : Nat} {post : Option Value → HP → Prop} {n k sl pc : Nat} {h : HP} {L : List (Option Value)} {st : List Value} (hX : Cx X own bytes ret fr lo mc ms n1 post) {x : Int32} {off : Int} (tgt : Nat) (hdg : decode bytes pc = .ok (.ifCond .lt off, 3)) (ht : (pc : Int) + off = (tgt : Int)) (kt : x < 0 → AW X n h k sl tgt L st) (kf : ¬ x < 0 → AW X n h k sl (pc + 3) L st)  : AW X n h k sl pc L (.int x :: st) := by
  obtain ⟨p, l, e, R, s, m, args, below, meth, c, Q, E, nL⟩ := X
  obtain ⟨hx, hb, hml, hown, hts, hK, hlk, hr, hR, hQ⟩ := hX
  intro H locs ls hW hS hz hl
  exact lv_if_lt hx hb hdg ht (fun q => kt q H locs ls hW hS hz hl) (fun q => kf q H locs ls hW hS hz hl)

theorem aw_if_ge {X : CX} {own : String} {bytes : ByteArray} {ret : Option FieldType} {fr lo mc ms n1 : Nat} {post : Option Value → HP → Prop} {n k sl pc : Nat} {h : HP} {L : List (Option Value)} {st : List Value} (hX : Cx X own bytes ret fr lo mc ms n1 post) {x : Int32} {off : Int} (tgt : Nat) (hdg : decode bytes pc = .ok (.ifCond .ge off, 3)) (ht : (pc : Int) + off = (tgt : Int)) (kt : 0 ≤ x → AW X n h k sl tgt L st) (kf : ¬ 0 ≤ x → AW X n h k sl (pc + 3) L st)  : AW X n h k sl pc L (.int x :: st) := by
  obtain ⟨p, l, e, R, s, m, args, below, meth, c, Q, E, nL⟩ := X
  obtain ⟨hx, hb, hml, hown, hts, hK, hlk, hr, hR, hQ⟩ := hX
  intro H locs ls hW hS hz hl
  exact lv_if_ge hx hb hdg ht (fun q => kt q H locs ls hW hS hz hl) (fun q => kf q H locs ls hW hS hz hl)

theorem aw_if_gt {X : CX} {own : String} {bytes : ByteArray} {ret : Option FieldType} {fr lo mc ms n1 : Nat} {post : Option Value → HP → Prop} {n k sl pc : Nat} {h : HP} {L : List (Option Value)} {st : List Value} (hX : Cx X own bytes ret fr lo mc ms n1 post) {x : Int32} {off : Int} (tgt : Nat) (hdg : decode bytes pc = .ok (.ifCond .gt off, 3)) (ht : (pc : Int) + off = (tgt : Int)) (kt : 0 < x → AW X n h k sl tgt L st) (kf : ¬ 0 < x → AW X n h k sl (pc + 3) L st)  : AW X n h k sl pc L (.int x :: st) := by
  obtain ⟨p, l, e, R, s, m, args, below, meth, c, Q, E, nL⟩ := X
  obtain ⟨hx, hb, hml, hown, hts, hK, hlk, hr, hR, hQ⟩ := hX
  intro H locs ls hW hS hz hl
  exact lv_if_gt hx hb hdg ht (fun q => kt q H locs ls hW hS hz hl) (fun q => kf q H locs ls hW hS hz hl)

theorem aw_if_le {X : CX} {own : String} {bytes : ByteArray} {ret : Option FieldType} {fr lo mc ms n1 : Nat} {post : Option Value → HP → Prop} {n k sl pc : Nat} {h : HP} {L : List (Option Value)} {st : List Value} (hX : Cx X own bytes ret fr lo mc ms n1 post) {x : Int32} {off : Int} (tgt : Nat) (hdg : decode bytes pc = .ok (.ifCond .le off, 3)) (ht : (pc : Int) + off = (tgt : Int)) (kt : x ≤ 0 → AW X n h k sl tgt L st) (kf : ¬ x ≤ 0 → AW X n h k sl (pc + 3) L st)  : AW X n h k sl pc L (.int x :: st) := by
  obtain ⟨p, l, e, R, s, m, args, below, meth, c, Q, E, nL⟩ := X
  obtain ⟨hx, hb, hml, hown, hts, hK, hlk, hr, hR, hQ⟩ := hX
  intro H locs ls hW hS hz hl
  exact lv_if_le hx hb hdg ht (fun q => kt q H locs ls hW hS hz hl) (fun q => kf q H locs ls hW hS hz hl)

theorem aw_icmp_eq {X : CX} {own : String} {bytes : ByteArray} {ret : Option FieldType} {fr lo mc ms n1 : Nat} {post : Option Value → HP → Prop} {n k sl pc : Nat} {h : HP} {L : List (Option Value)} {st : List Value} (hX : Cx X own bytes ret fr lo mc ms n1 post) {x y : Int32} {off : Int} (tgt : Nat) (hdg : decode bytes pc = .ok (.if_icmp .eq off, 3)) (ht : (pc : Int) + off = (tgt : Int)) (kt : x = y → AW X n h k sl tgt L st) (kf : ¬ x = y → AW X n h k sl (pc + 3) L st)  : AW X n h k sl pc L (.int y :: .int x :: st) := by
  obtain ⟨p, l, e, R, s, m, args, below, meth, c, Q, E, nL⟩ := X
  obtain ⟨hx, hb, hml, hown, hts, hK, hlk, hr, hR, hQ⟩ := hX
  intro H locs ls hW hS hz hl
  exact lv_icmp_eq hx hb hdg ht (fun q => kt q H locs ls hW hS hz hl) (fun q => kf q H locs ls hW hS hz hl)

theorem aw_icmp_ne {X : CX} {own : String} {bytes : ByteArray} {ret : Option FieldType} {fr lo mc ms n1 : Nat} {post : Option Value → HP → Prop} {n k sl pc : Nat} {h : HP} {L : List (Option Value)} {st : List Value} (hX : Cx X own bytes ret fr lo mc ms n1 post) {x y : Int32} {off : Int} (tgt : Nat) (hdg : decode bytes pc = .ok (.if_icmp .ne off, 3)) (ht : (pc : Int) + off = (tgt : Int)) (kt : ¬ x = y → AW X n h k sl tgt L st) (kf : x = y → AW X n h k sl (pc + 3) L st)  : AW X n h k sl pc L (.int y :: .int x :: st) := by
  obtain ⟨p, l, e, R, s, m, args, below, meth, c, Q, E, nL⟩ := X
  obtain ⟨hx, hb, hml, hown, hts, hK, hlk, hr, hR, hQ⟩ := hX
  intro H locs ls hW hS hz hl
  exact lv_icmp_ne hx hb hdg ht (fun q => kt q H locs ls hW hS hz hl) (fun q => kf q H locs ls hW hS hz hl)

theorem aw_icmp_lt {X : CX} {own : String} {bytes : ByteArray} {ret : Option FieldType} {fr lo mc ms n1 : Nat} {post : Option Value → HP → Prop} {n k sl pc : Nat} {h : HP} {L : List (Option Value)} {st : List Value} (hX : Cx X own bytes ret fr lo mc ms n1 post) {x y : Int32} {off : Int} (tgt : Nat) (hdg : decode bytes pc = .ok (.if_icmp .lt off, 3)) (ht : (pc : Int) + off = (tgt : Int)) (kt : x < y → AW X n h k sl tgt L st) (kf : ¬ x < y → AW X n h k sl (pc + 3) L st)  : AW X n h k sl pc L (.int y :: .int x :: st) := by
  obtain ⟨p, l, e, R, s, m, args, below, meth, c, Q, E, nL⟩ := X
  obtain ⟨hx, hb, hml, hown, hts, hK, hlk, hr, hR, hQ⟩ := hX
  intro H locs ls hW hS hz hl
  exact lv_icmp_lt hx hb hdg ht (fun q => kt q H locs ls hW hS hz hl) (fun q => kf q H locs ls hW hS hz hl)

theorem aw_icmp_ge {X : CX} {own : String} {bytes : ByteArray} {ret : Option FieldType} {fr lo mc ms n1 : Nat} {post : Option Value → HP → Prop} {n k sl pc : Nat} {h : HP} {L : List (Option Value)} {st : List Value} (hX : Cx X own bytes ret fr lo mc ms n1 post) {x y : Int32} {off : Int} (tgt : Nat) (hdg : decode bytes pc = .ok (.if_icmp .ge off, 3)) (ht : (pc : Int) + off = (tgt : Int)) (kt : y ≤ x → AW X n h k sl tgt L st) (kf : ¬ y ≤ x → AW X n h k sl (pc + 3) L st)  : AW X n h k sl pc L (.int y :: .int x :: st) := by
  obtain ⟨p, l, e, R, s, m, args, below, meth, c, Q, E, nL⟩ := X
  obtain ⟨hx, hb, hml, hown, hts, hK, hlk, hr, hR, hQ⟩ := hX
  intro H locs ls hW hS hz hl
  exact lv_icmp_ge hx hb hdg ht (fun q => kt q H locs ls hW hS hz hl) (fun q => kf q H locs ls hW hS hz hl)

theorem aw_icmp_gt {X : CX} {own : String} {bytes : ByteArray} {ret : Option FieldType} {fr lo mc ms n1 : Nat} {post : Option Value → HP → Prop} {n k sl pc : Nat} {h : HP} {L : List (Option Value)} {st : List Value} (hX : Cx X own bytes ret fr lo mc ms n1 post) {x y : Int32} {off : Int} (tgt : Nat) (hdg : decode bytes pc = .ok (.if_icmp .gt off, 3)) (ht : (pc : Int) + off = (tgt : Int)) (kt : y < x → AW X n h k sl tgt L st) (kf : ¬ y < x → AW X n h k sl (pc + 3) L st)  : AW X n h k sl pc L (.int y :: .int x :: st) := by
  obtain ⟨p, l, e, R, s, m, args, below, meth, c, Q, E, nL⟩ := X
  obtain ⟨hx, hb, hml, hown, hts, hK, hlk, hr, hR, hQ⟩ := hX
  intro H locs ls hW hS hz hl
  exact lv_icmp_gt hx hb hdg ht (fun q => kt q H locs ls hW hS hz hl) (fun q => kf q H locs ls hW hS hz hl)

theorem aw_icmp_le {X : CX} {own : String} {bytes : ByteArray} {ret : Option FieldType} {fr lo mc ms n1 : Nat} {post : Option Value → HP → Prop} {n k sl pc : Nat} {h : HP} {L : List (Option Value)} {st : List Value} (hX : Cx X own bytes ret fr lo mc ms n1 post) {x y : Int32} {off : Int} (tgt : Nat) (hdg : decode bytes pc = .ok (.if_icmp .le off, 3)) (ht : (pc : Int) + off = (tgt : Int)) (kt : x ≤ y → AW X n h k sl tgt L st) (kf : ¬ x ≤ y → AW X n h k sl (pc + 3) L st)  : AW X n h k sl pc L (.int y :: .int x :: st) := by
  obtain ⟨p, l, e, R, s, m, args, below, meth, c, Q, E, nL⟩ := X
  obtain ⟨hx, hb, hml, hown, hts, hK, hlk, hr, hR, hQ⟩ := hX
  intro H locs ls hW hS hz hl
  exact lv_icmp_le hx hb hdg ht (fun q => kt q H locs ls hW hS hz hl) (fun q => kf q H locs ls hW hS hz hl)

theorem aw_goto {X : CX} {own : String} {bytes : ByteArray} {ret : Option FieldType} {fr lo mc ms n1 : Nat} {post : Option Value → HP → Prop} {n k sl pc : Nat} {h : HP} {L : List (Option Value)} {st : List Value} (hX : Cx X own bytes ret fr lo mc ms n1 post) {off : Int} (tgt : Nat) (hdg : decode bytes pc = .ok (.goto off, 3)) (ht : (pc : Int) + off = (tgt : Int)) (kk : AW X n h k sl tgt L st) : AW X n h k sl pc L st := by
  obtain ⟨p, l, e, R, s, m, args, below, meth, c, Q, E, nL⟩ := X
  obtain ⟨hx, hb, hml, hown, hts, hK, hlk, hr, hR, hQ⟩ := hX
  intro H locs ls hW hS hz hl
  exact lv_goto hx hb hdg ht (kk H locs ls hW hS hz hl)

theorem aw_ifnull {X : CX} {own : String} {bytes : ByteArray} {ret : Option FieldType} {fr lo mc ms n1 : Nat} {post : Option Value → HP → Prop} {n k sl pc : Nat} {h : HP} {L : List (Option Value)} {st : List Value} (hX : Cx X own bytes ret fr lo mc ms n1 post) {off : Int} {x : Nat} (hdg : decode bytes pc = .ok (.ifnull off, 3)) (kk : AW X n h k sl (pc + 3) L st) : AW X n h k sl pc L (.ref x :: st) := by
  obtain ⟨p, l, e, R, s, m, args, below, meth, c, Q, E, nL⟩ := X
  obtain ⟨hx, hb, hml, hown, hts, hK, hlk, hr, hR, hQ⟩ := hX
  intro H locs ls hW hS hz hl
  exact lv_ifnull hx hb hdg (kk H locs ls hW hS hz hl)

theorem aw_tabIn {X : CX} {own : String} {bytes : ByteArray} {ret : Option FieldType} {fr lo mc ms n1 : Nat} {post : Option Value → HP → Prop} {n k sl pc : Nat} {h : HP} {L : List (Option Value)} {st : List Value} (hX : Cx X own bytes ret fr lo mc ms n1 post) {dflt lw hi : Int} {offs : Array Int} {len : Nat} {x : Int32} {off : Int} (tgt : Nat) (hdg : decode bytes pc = .ok (.tableswitch dflt lw hi offs, len)) (h1 : ¬ x.toInt < lw) (h2 : ¬ hi < x.toInt) (ho : offs[(x.toInt - lw).toNat]? = some off) (ht : (pc : Int) + off = (tgt : Int)) (kk : AW X n h k sl tgt L st) : AW X n h k sl pc L (.int x :: st) := by
  obtain ⟨p, l, e, R, s, m, args, below, meth, c, Q, E, nL⟩ := X
  obtain ⟨hx, hb, hml, hown, hts, hK, hlk, hr, hR, hQ⟩ := hX
  intro H locs ls hW hS hz hl
  exact lv_tableIn hx hb hdg h1 h2 ho ht (kk H locs ls hW hS hz hl)

theorem aw_tabOut {X : CX} {own : String} {bytes : ByteArray} {ret : Option FieldType} {fr lo mc ms n1 : Nat} {post : Option Value → HP → Prop} {n k sl pc : Nat} {h : HP} {L : List (Option Value)} {st : List Value} (hX : Cx X own bytes ret fr lo mc ms n1 post) {dflt lw hi : Int} {offs : Array Int} {len : Nat} {x : Int32} (tgt : Nat) (hdg : decode bytes pc = .ok (.tableswitch dflt lw hi offs, len)) (h1 : x.toInt < lw ∨ hi < x.toInt) (ht : (pc : Int) + dflt = (tgt : Int)) (kk : AW X n h k sl tgt L st) : AW X n h k sl pc L (.int x :: st) := by
  obtain ⟨p, l, e, R, s, m, args, below, meth, c, Q, E, nL⟩ := X
  obtain ⟨hx, hb, hml, hown, hts, hK, hlk, hr, hR, hQ⟩ := hX
  intro H locs ls hW hS hz hl
  exact lv_tableOut hx hb hdg h1 ht (kk H locs ls hW hS hz hl)

theorem aw_ldc {X : CX} {own : String} {bytes : ByteArray} {ret : Option FieldType} {fr lo mc ms n1 : Nat} {post : Option Value → HP → Prop} {n k sl pc : Nat} {h : HP} {L : List (Option Value)} {st : List Value} (hX : Cx X own bytes ret fr lo mc ms n1 post) {ix : Nat} {v : Int32} (hc : Cond.constant own ix v ∈ tbG) (hdg : decode bytes pc = .ok (.ldc ix, 2)) (kk : AW X n h k sl (pc + 2) L (.int v :: st)) : AW X n h k sl pc L st := by
  obtain ⟨p, l, e, R, s, m, args, below, meth, c, Q, E, nL⟩ := X
  obtain ⟨hx, hb, hml, hown, hts, hK, hlk, hr, hR, hQ⟩ := hX
  intro H locs ls hW hS hz hl
  exact lv_ldc hx hb hown (hts _ hc) hdg (kk H locs ls hW hS hz hl)

theorem aw_ldcw {X : CX} {own : String} {bytes : ByteArray} {ret : Option FieldType} {fr lo mc ms n1 : Nat} {post : Option Value → HP → Prop} {n k sl pc : Nat} {h : HP} {L : List (Option Value)} {st : List Value} (hX : Cx X own bytes ret fr lo mc ms n1 post) {ix : Nat} {v : Int32} (hc : Cond.constant own ix v ∈ tbG) (hdg : decode bytes pc = .ok (.ldc_w ix, 3)) (kk : AW X n h k sl (pc + 3) L (.int v :: st)) : AW X n h k sl pc L st := by
  obtain ⟨p, l, e, R, s, m, args, below, meth, c, Q, E, nL⟩ := X
  obtain ⟨hx, hb, hml, hown, hts, hK, hlk, hr, hR, hQ⟩ := hX
  intro H locs ls hW hS hz hl
  exact lv_ldcw hx hb hown (hts _ hc) hdg (kk H locs ls hW hS hz hl)

theorem aw_alen {X : CX} {own : String} {bytes : ByteArray} {ret : Option FieldType} {fr lo mc ms n1 : Nat} {post : Option Value → HP → Prop} {n k sl pc : Nat} {h : HP} {L : List (Option Value)} {st : List Value} (hX : Cx X own bytes ret fr lo mc ms n1 post) {a t N : Nat} {z : (Nat → Int32) ⊕ (Nat → Option Nat)} (v : Int32) (hh : h a = some (.inl (t, N, z))) (ht : t < 3) (hv : Int32.ofNat N = v) (hdg : decode bytes pc = .ok (.arraylength, 1)) (kk : AW X n h k sl (pc + 1) L (.int v :: st)) : AW X n h k sl pc L (.ref a :: st) := by
  obtain ⟨p, l, e, R, s, m, args, below, meth, c, Q, E, nL⟩ := X
  obtain ⟨hx, hb, hml, hown, hts, hK, hlk, hr, hR, hQ⟩ := hX
  intro H locs ls hW hS hz hl
  obtain ⟨ws, q0, hP, hD, hq, -⟩ := Wd.list hW hh
  obtain ⟨ty, hty⟩ := tysE_at E ht
  rcases z with f | g
  · exact va_alen hx hb hK.1 hP q0 t hq hty hv hdg (kk H locs ls hW hS hz hl)
  · exact va_alen hx hb hK.1 hP q0 t hq hty hv hdg (kk H locs ls hW hS hz hl)

theorem aw_iald {X : CX} {own : String} {bytes : ByteArray} {ret : Option FieldType} {fr lo mc ms n1 : Nat} {post : Option Value → HP → Prop} {n k sl pc : Nat} {h : HP} {L : List (Option Value)} {st : List Value} (hX : Cx X own bytes ret fr lo mc ms n1 post) {a N : Nat} {f : Nat → Int32} {i : Int32} (hh : h a = some (cI N f)) (hin : vp_in i N) (hdg : decode bytes pc = .ok (.iaload, 1)) (kk : AW X n h k sl (pc + 1) L (.int (f i.toNatClampNeg) :: st)) : AW X n h k sl pc L (.int i :: .ref a :: st) := by
  obtain ⟨p, l, e, R, s, m, args, below, meth, c, Q, E, nL⟩ := X
  obtain ⟨hx, hb, hml, hown, hts, hK, hlk, hr, hR, hQ⟩ := hX
  intro H locs ls hW hS hz hl
  obtain ⟨ws, q0, hP, hD, hq, -⟩ := Wd.list hW hh
  exact va_iald hx hb hK.1 hP q0 0 hq rfl hin hdg (kk H locs ls hW hS hz hl)

theorem aw_iast {X : CX} {own : String} {bytes : ByteArray} {ret : Option FieldType} {fr lo mc ms n1 : Nat} {post : Option Value → HP → Prop} {n k sl pc : Nat} {h : HP} {L : List (Option Value)} {st : List Value} (hX : Cx X own bytes ret fr lo mc ms n1 post) {a N : Nat} {f : Nat → Int32} {i x : Int32} (hh : h a = some (cI N f)) (hin : vp_in i N) (hdg : decode bytes pc = .ok (.iastore, 1)) (kk : AW X n (hset h a (cI N (upd f i.toNatClampNeg x))) k sl (pc + 1) L st) : AW X n h k sl pc L (.int x :: .int i :: .ref a :: st) := by
  obtain ⟨p, l, e, R, s, m, args, below, meth, c, Q, E, nL⟩ := X
  obtain ⟨hx, hb, hml, hown, hts, hK, hlk, hr, hR, hQ⟩ := hX
  intro H locs ls hW hS hz hl
  obtain ⟨ws, q0, hP, hD, hq, hback⟩ := Wd.list hW hh
  refine va_iast hx hb hK.1 hP hD hS q0 0 hq rfl hin hdg (fun H1 locs1 hP1 hD1 hS1 => W.sz (fun hsz => ?_))
  obtain ⟨hW1, hz1⟩ := hback (cI N (upd f i.toNatClampNeg x)) H1 hP1 (by omega)
  exact kk H1 locs1 ls hW1 hS1 (by omega) hl

theorem aw_aald {X : CX} {own : String} {bytes : ByteArray} {ret : Option FieldType} {fr lo mc ms n1 : Nat} {post : Option Value → HP → Prop} {n k sl pc : Nat} {h : HP} {L : List (Option Value)} {st : List Value} (hX : Cx X own bytes ret fr lo mc ms n1 post) {a t N b : Nat} {g : Nat → Option Nat} {i : Int32} (hh : h a = some (cG t N g)) (ht : t = 1 ∨ t = 2) (hin : vp_in i N) (hb2 : g i.toNatClampNeg = some b) (hdg : decode bytes pc = .ok (.aaload, 1)) (kk : AW X n h k sl (pc + 1) L (.ref b :: st)) : AW X n h k sl pc L (.int i :: .ref a :: st) := by
  obtain ⟨p, l, e, R, s, m, args, below, meth, c, Q, E, nL⟩ := X
  obtain ⟨hx, hb, hml, hown, hts, hK, hlk, hr, hR, hQ⟩ := hX
  intro H locs ls hW hS hz hl
  obtain ⟨ws, q0, hP, hD, hq, -⟩ := Wd.list hW hh
  have hlt : i.toNatClampNeg < N := Nat.not_le.mp fun q => hin (Or.inr q)
  have hv : (arrV (eC E t) N (fun j => va_rf ((g j).map (ad E)))).slots[i.toNatClampNeg]? = some (.ref (ad E b)) := by
    rw [arrV_read _ _ hlt, hb2]
    rfl
  rcases ht with rfl | rfl
  · exact W.aald (ty := .array .int) hx hb (hP q0 _ hq) ((hK.1.2 1 _ rfl).1 N (fun j => va_rf ((g j).map (ad E)))) rfl (fun q => by cases q) (by show ¬ (i < 0 ∨ (arrV _ _ _).slots.size ≤ _); rw [arrV_size]; exact hin) hv rfl rfl hdg (kk H locs ls hW hS hz hl)
  · exact W.aald (ty := .object RX8) hx hb (hP q0 _ hq) ((hK.1.2 2 _ rfl).1 N (fun j => va_rf ((g j).map (ad E)))) rfl (fun q => by cases q) (by show ¬ (i < 0 ∨ (arrV _ _ _).slots.size ≤ _); rw [arrV_size]; exact hin) hv rfl rfl hdg (kk H locs ls hW hS hz hl)

theorem aw_roald {X : CX} {own : String} {bytes : ByteArray} {ret : Option FieldType} {fr lo mc ms n1 : Nat} {post : Option Value → HP → Prop} {n k sl pc : Nat} {h : HP} {L : List (Option Value)} {st : List Value} (hX : Cx X own bytes ret fr lo mc ms n1 post) {a : Nat} {i : Int32} (ha : a < 5) (hin : vp_in i (eN X.E a)) (hdg : decode bytes pc = .ok (.iaload, 1)) (kk : AW X n h k sl (pc + 1) L (.int (eF X.E a i.toNatClampNeg) :: st)) : AW X n h k sl pc L (.int i :: .ref a :: st) := by
  obtain ⟨p, l, e, R, s, m, args, below, meth, c, Q, E, nL⟩ := X
  obtain ⟨hx, hb, hml, hown, hts, hK, hlk, hr, hR, hQ⟩ := hX
  intro H locs ls hW hS hz hl
  have e1 : cv E (.ref a) = .ref (eT E a) := by simp [cv, ad, ha]
  show W p l e R s m args below meth c H locs k sl Q (F0 m pc ls (.int i :: cv E (.ref a) :: st.map (cv E)))
  rw [e1]
  exact va_ti hx hb (hK.2.2.1 a ha) hS hin rfl hdg (kk H locs ls hW hS hz hl)

theorem aw_rolen {X : CX} {own : String} {bytes : ByteArray} {ret : Option FieldType} {fr lo mc ms n1 : Nat} {post : Option Value → HP → Prop} {n k sl pc : Nat} {h : HP} {L : List (Option Value)} {st : List Value} (hX : Cx X own bytes ret fr lo mc ms n1 post) {a : Nat} (v : Int32) (ha : a < 5) (hv : Int32.ofNat (eN X.E a) = v) (hdg : decode bytes pc = .ok (.arraylength, 1)) (kk : AW X n h k sl (pc + 1) L (.int v :: st)) : AW X n h k sl pc L (.ref a :: st) := by
  obtain ⟨p, l, e, R, s, m, args, below, meth, c, Q, E, nL⟩ := X
  obtain ⟨hx, hb, hml, hown, hts, hK, hlk, hr, hR, hQ⟩ := hX
  intro H locs ls hW hS hz hl
  have e1 : cv E (.ref a) = .ref (eT E a) := by simp [cv, ad, ha]
  show W p l e R s m args below meth c H locs k sl Q (F0 m pc ls (cv E (.ref a) :: st.map (cv E)))
  rw [e1]
  exact va_tlen hx hb (hK.2.2.1 a ha) hS hv hdg (kk H locs ls hW hS hz hl)

theorem aw_gets {X : CX} {own : String} {bytes : ByteArray} {ret : Option FieldType} {fr lo mc ms n1 : Nat} {post : Option Value → HP → Prop} {n k sl pc : Nat} {h : HP} {L : List (Option Value)} {st : List Value} (hX : Cx X own bytes ret fr lo mc ms n1 post) {a ix : Nat} {nm : String} (hF : (nm = "FIRST_NUMBERS" ∧ a = 0) ∨ (nm = "LEAST_NUMBERS" ∧ a = 1) ∨ (nm = "MOST_NUMBERS" ∧ a = 2) ∨ (nm = "SHIFTS" ∧ a = 3)) (hlink : Cond.fieldLink own ix RX9 nm "[I" ∈ tbG) (hdg : decode bytes pc = .ok (.getstatic ix, 3)) (kk : AW X n h k sl (pc + 3) L (.ref a :: st)) : AW X n h k sl pc L st := by
  obtain ⟨p, l, e, R, s, m, args, below, meth, c, Q, E, nL⟩ := X
  obtain ⟨hx, hb, hml, hown, hts, hK, hlk, hr, hR, hQ⟩ := hX
  intro H locs ls hW hS hz hl
  obtain ⟨z0, z1, z2, z3⟩ := hK.2.1
  have hk := kk H locs ls hW hS hz hl
  rcases hF with ⟨rfl, rfl⟩ | ⟨rfl, rfl⟩ | ⟨rfl, rfl⟩ | ⟨rfl, rfl⟩
  · exact va_gets hx hb z0 hS hown (hts _ hlink) (fun _ q => q) hdg hk
  · exact va_gets hx hb z1 hS hown (hts _ hlink) (fun _ q => q) hdg hk
  · exact va_gets hx hb z2 hS hown (hts _ hlink) (fun _ q => q) hdg hk
  · exact va_gets hx hb z3 hS hown (hts _ hlink) (fun _ q => q) hdg hk

theorem aw_getsN {X : CX} {own : String} {bytes : ByteArray} {ret : Option FieldType} {fr lo mc ms n1 : Nat} {post : Option Value → HP → Prop} {n k sl pc : Nat} {h : HP} {L : List (Option Value)} {st : List Value} (hX : Cx X own bytes ret fr lo mc ms n1 post) {a ix : Nat} {nm host : String} (own2 : String) (ho : own2 = own) (hF : (nm = "FIRST_NUMBERS" ∧ a = 0) ∨ (nm = "LEAST_NUMBERS" ∧ a = 1) ∨ (nm = "MOST_NUMBERS" ∧ a = 2) ∨ (nm = "SHIFTS" ∧ a = 3)) (hlink : Cond.fieldLinkNest own2 ix RX9 nm "[I" host ∈ lw_tbl) (hdg : decode bytes pc = .ok (.getstatic ix, 3)) (kk : AW X n h k sl (pc + 3) L (.ref a :: st)) : AW X n h k sl pc L st := by
  obtain ⟨p, l, e, R, s, m, args, below, meth, c, Q, E, nL⟩ := X
  obtain ⟨hx, hb, hml, hown, hts, hK, hlk, hr, hR, hQ⟩ := hX
  intro H locs ls hW hS hz hl
  subst ho
  obtain ⟨z0, z1, z2, z3⟩ := hK.2.1
  have hk := kk H locs ls hW hS hz hl
  rcases hF with ⟨rfl, rfl⟩ | ⟨rfl, rfl⟩ | ⟨rfl, rfl⟩ | ⟨rfl, rfl⟩
  · exact va_getsN hx hb z0 hS hown (hK.nest hlink rfl) (fun _ q => q) hdg hk
  · exact va_getsN hx hb z1 hS hown (hK.nest hlink rfl) (fun _ q => q) hdg hk
  · exact va_getsN hx hb z2 hS hown (hK.nest hlink rfl) (fun _ q => q) hdg hk
  · exact va_getsN hx hb z3 hS hown (hK.nest hlink rfl) (fun _ q => q) hdg hk

theorem aw_get {X : CX} {own : String} {bytes : ByteArray} {ret : Option FieldType} {fr lo mc ms n1 : Nat} {post : Option Value → HP → Prop} {n k sl pc : Nat} {h : HP} {L : List (Option Value)} {st : List Value} (hX : Cx X own bytes ret fr lo mc ms n1 post) {own2 C : String} {T : u_T} {N ci ix a : Nat} {fs : List Value} {v : Value} (k0 : Nat) (ho : own2 = own) (hc : vwCl[ci]? = some (C, T, N)) (hin : ∀ w ∈ u_ws C T N, w ∈ tbG) (hlink : Cond.fieldLink own2 ix (T k0).1 (T k0).2.1 (T k0).2.2.1 ∈ tbG) (hk0 : k0 < N) (hh : h a = some (cO ci fs)) (hv : fs[k0]? = some v) (hdg : decode bytes pc = .ok (.getfield ix, 3)) (kk : AW X n h k sl (pc + 3) L (v :: st)) : AW X n h k sl pc L (.ref a :: st) := by
  obtain ⟨p, l, e, R, s, m, args, below, meth, c, Q, E, nL⟩ := X
  obtain ⟨hx, hb, hml, hown, hts, hK, hlk, hr, hR, hQ⟩ := hX
  intro H locs ls hW hS hz hl
  subst ho
  obtain ⟨ws, q0, hP, hD, hq, -⟩ := Wd.list hW hh
  exact va_get hx hb hts hin hown hK.1 hP q0 hq hc k0 hk0 (hts _ hlink) (fun _ q => q) (by rw [List.getElem?_map, hv]; rfl) hdg (kk H locs ls hW hS hz hl)

theorem aw_getN {X : CX} {own : String} {bytes : ByteArray} {ret : Option FieldType} {fr lo mc ms n1 : Nat} {post : Option Value → HP → Prop} {n k sl pc : Nat} {h : HP} {L : List (Option Value)} {st : List Value} (hX : Cx X own bytes ret fr lo mc ms n1 post) {own2 C host : String} {T : u_T} {N ci ix a : Nat} {fs : List Value} {v : Value} (k0 : Nat) (ho : own2 = own) (hc : vwCl[ci]? = some (C, T, N)) (hin : ∀ w ∈ u_ws C T N, w ∈ tbG) (hlink : Cond.fieldLinkNest own2 ix (T k0).1 (T k0).2.1 (T k0).2.2.1 host ∈ lw_tbl) (hk0 : k0 < N) (hh : h a = some (cO ci fs)) (hv : fs[k0]? = some v) (hdg : decode bytes pc = .ok (.getfield ix, 3)) (kk : AW X n h k sl (pc + 3) L (v :: st)) : AW X n h k sl pc L (.ref a :: st) := by
  obtain ⟨p, l, e, R, s, m, args, below, meth, c, Q, E, nL⟩ := X
  obtain ⟨hx, hb, hml, hown, hts, hK, hlk, hr, hR, hQ⟩ := hX
  intro H locs ls hW hS hz hl
  subst ho
  obtain ⟨ws, q0, hP, hD, hq, -⟩ := Wd.list hW hh
  exact va_getN hx hb hts hin hown hK.1 hP q0 hq hc k0 hk0 (hK.nest hlink rfl) (fun _ q => q) (by rw [List.getElem?_map, hv]; rfl) hdg (kk H locs ls hW hS hz hl)

theorem aw_put {X : CX} {own : String} {bytes : ByteArray} {ret : Option FieldType} {fr lo mc ms n1 : Nat} {post : Option Value → HP → Prop} {n k sl pc : Nat} {h : HP} {L : List (Option Value)} {st : List Value} (hX : Cx X own bytes ret fr lo mc ms n1 post) {own2 C : String} {T : u_T} {N ci ix a : Nat} {fs : List Value} {v : Value} {ty : FieldType} (k0 : Nat) (ho : own2 = own) (hc : vwCl[ci]? = some (C, T, N)) (hin : ∀ w ∈ u_ws C T N, w ∈ tbG) (ty0 : Nat → FieldType) (hty : ∀ k, k < N → parseFieldDescriptor (T k).2.2.1 = some (ty0 k)) (hnm : ∀ a, a < N → ∀ b, b < N → a ≠ b → (T a).2.1 ≠ (T b).2.1) (hlink : Cond.fieldLink own2 ix (T k0).1 (T k0).2.1 (T k0).2.2.1 ∈ tbG) (hk0 : k0 < N) (hfin : (T k0).2.2.2 = false) (hd : parseFieldDescriptor (T k0).2.2.1 = some ty) (hn : narrow ty (cv X.E v) = cv X.E v) (hft : fits ty (cv X.E v) = true) (hh : h a = some (cO ci fs)) (hlen : k0 < fs.length) (hdg : decode bytes pc = .ok (.putfield ix, 3)) (kk : AW X n (hset h a (cO ci (fs.set k0 v))) k sl (pc + 3) L st) : AW X n h k sl pc L (v :: .ref a :: st) := by
  obtain ⟨p, l, e, R, s, m, args, below, meth, c, Q, E, nL⟩ := X
  obtain ⟨hx, hb, hml, hown, hts, hK, hlk, hr, hR, hQ⟩ := hX
  intro H locs ls hW hS hz hl
  subst ho
  obtain ⟨ws, q0, hP, hD, hq, hback⟩ := Wd.list hW hh
  refine va_put hx hb hts hin ty0 hty hnm hown hK.1 hP hD hS q0 hq hc k0 hk0 (hts _ hlink) (fun _ q => q) hfin  hd (ty := ty) hn hft (by rw [List.length_map]; exact hlen) hdg (fun H1 locs1 hP1 hD1 hS1 => W.sz (fun hsz => ?_))
  rw [← cc_set E ci fs k0] at hP1
  obtain ⟨hW1, hz1⟩ := hback (cO ci (fs.set k0 v)) H1 hP1 (by omega)
  exact kk H1 locs1 ls hW1 hS1 (by omega) hl

theorem aw_putF {X : CX} {own : String} {bytes : ByteArray} {ret : Option FieldType} {fr lo mc ms n1 : Nat} {post : Option Value → HP → Prop} {n k sl pc : Nat} {h : HP} {L : List (Option Value)} {st : List Value} (hX : Cx X own bytes ret fr lo mc ms n1 post) {own2 C : String} {T : u_T} {N ci ix a : Nat} {fs : List Value} {v : Value} {ty : FieldType} (k0 : Nat) (ho : own2 = own) (hc : vwCl[ci]? = some (C, T, N)) (hin : ∀ w ∈ u_ws C T N, w ∈ tbG) (ty0 : Nat → FieldType) (hty : ∀ k, k < N → parseFieldDescriptor (T k).2.2.1 = some (ty0 k)) (hnm : ∀ a, a < N → ∀ b, b < N → a ≠ b → (T a).2.1 ≠ (T b).2.1) (hlink : Cond.fieldLink own2 ix (T k0).1 (T k0).2.1 (T k0).2.2.1 ∈ tbG) (hk0 : k0 < N) (hfin : (T k0).2.2.2 = true) (hini : X.2.2.2.2.2.2.2.2.1.name = "<init>") (hdecl : (T k0).1 = own2) (hd : parseFieldDescriptor (T k0).2.2.1 = some ty) (hn : narrow ty (cv X.E v) = cv X.E v) (hft : fits ty (cv X.E v) = true) (hh : h a = some (cO ci fs)) (hlen : k0 < fs.length) (hdg : decode bytes pc = .ok (.putfield ix, 3)) (kk : AW X n (hset h a (cO ci (fs.set k0 v))) k sl (pc + 3) L st) : AW X n h k sl pc L (v :: .ref a :: st) := by
  obtain ⟨p, l, e, R, s, m, args, below, meth, c, Q, E, nL⟩ := X
  obtain ⟨hx, hb, hml, hown, hts, hK, hlk, hr, hR, hQ⟩ := hX
  intro H locs ls hW hS hz hl
  subst ho
  obtain ⟨ws, q0, hP, hD, hq, hback⟩ := Wd.list hW hh
  refine va_putF hx hb hts hin ty0 hty hnm hown hK.1 hP hD hS q0 hq hc k0 hk0 (hts _ hlink) (fun _ q => q) hfin hini hdecl hd (ty := ty) hn hft (by rw [List.length_map]; exact hlen) hdg (fun H1 locs1 hP1 hD1 hS1 => W.sz (fun hsz => ?_))
  rw [← cc_set E ci fs k0] at hP1
  obtain ⟨hW1, hz1⟩ := hback (cO ci (fs.set k0 v)) H1 hP1 (by omega)
  exact kk H1 locs1 ls hW1 hS1 (by omega) hl

theorem aw_iret {X : CX} {own : String} {bytes : ByteArray} {ret : Option FieldType} {fr lo mc ms n1 : Nat} {post : Option Value → HP → Prop} {n k sl pc : Nat} {h : HP} {L : List (Option Value)} (hX : Cx X own bytes ret fr lo mc ms n1 post) {v : Int32} (hr1 : ret = some .int) (hn1 : n1 = n) (hk1 : mc = k) (hs1 : ms = sl) (hdg : decode bytes pc = .ok (.ireturn, 1)) (hp : post (some (.int v)) h)  : AW X n h k sl pc L [.int v] := by
  obtain ⟨p, l, e, R, s, m, args, below, meth, c, Q, E, nL⟩ := X
  obtain ⟨hx, hb, hml, hown, hts, hK, hlk, hr, hR, hQ⟩ := hX
  intro H locs ls hW hS hz hl
  subst hQ
  subst hn1
  subst hk1
  subst hs1
  exact W.iret hx hb (hr.trans hr1) (fun t ht _ => ⟨⟨some (.int v), h, rfl, hp, by rw [ht]; exact hW⟩, hS.F ht⟩) hS.2.2 hdg hlk

theorem aw_zret {X : CX} {own : String} {bytes : ByteArray} {ret : Option FieldType} {fr lo mc ms n1 : Nat} {post : Option Value → HP → Prop} {n k sl pc : Nat} {h : HP} {L : List (Option Value)} (hX : Cx X own bytes ret fr lo mc ms n1 post) {v : Int32} (hr1 : ret = some .boolean) (hv : v = 0 ∨ v = 1) (hn1 : n1 = n) (hk1 : mc = k) (hs1 : ms = sl) (hdg : decode bytes pc = .ok (.ireturn, 1)) (hp : post (some (.int v)) h)  : AW X n h k sl pc L [.int v] := by
  obtain ⟨p, l, e, R, s, m, args, below, meth, c, Q, E, nL⟩ := X
  obtain ⟨hx, hb, hml, hown, hts, hK, hlk, hr, hR, hQ⟩ := hX
  intro H locs ls hW hS hz hl
  subst hQ
  subst hn1
  subst hk1
  subst hs1
  exact W.zret hx hb (hr.trans hr1) (by rcases hv with rfl | rfl <;> rfl) (fun t ht _ => ⟨⟨some (.int v), h, rfl, hp, by rw [ht]; exact hW⟩, hS.F ht⟩) hS.2.2 hdg hlk

theorem aw_vret {X : CX} {own : String} {bytes : ByteArray} {ret : Option FieldType} {fr lo mc ms n1 : Nat} {post : Option Value → HP → Prop} {n k sl pc : Nat} {h : HP} {L : List (Option Value)} (hX : Cx X own bytes ret fr lo mc ms n1 post) (hr1 : ret = none) (hn1 : n1 = n) (hk1 : mc = k) (hs1 : ms = sl) (hdg : decode bytes pc = .ok (.return_, 1)) (hp : post none h)  : AW X n h k sl pc L [] := by
  obtain ⟨p, l, e, R, s, m, args, below, meth, c, Q, E, nL⟩ := X
  obtain ⟨hx, hb, hml, hown, hts, hK, hlk, hr, hR, hQ⟩ := hX
  intro H locs ls hW hS hz hl
  subst hQ
  subst hn1
  subst hk1
  subst hs1
  exact W.vret hx hb (hr.trans hr1) (fun t ht _ => ⟨⟨none, h, rfl, hp, by rw [ht]; exact hW⟩, hS.F ht⟩) hS.2.2 hdg hlk

theorem aw_aret {X : CX} {own : String} {bytes : ByteArray} {ret : Option FieldType} {fr lo mc ms n1 : Nat} {post : Option Value → HP → Prop} {n k sl pc : Nat} {h : HP} {L : List (Option Value)} (hX : Cx X own bytes ret fr lo mc ms n1 post) {a : Nat} {nm : String} (hr1 : ret = some (.object nm)) (hn1 : n1 = n) (hk1 : mc = k) (hs1 : ms = sl) (hdg : decode bytes pc = .ok (.areturn, 1)) (hp : post (some (.ref a)) h)  : AW X n h k sl pc L [.ref a] := by
  obtain ⟨p, l, e, R, s, m, args, below, meth, c, Q, E, nL⟩ := X
  obtain ⟨hx, hb, hml, hown, hts, hK, hlk, hr, hR, hQ⟩ := hX
  intro H locs ls hW hS hz hl
  subst hQ
  subst hn1
  subst hk1
  subst hs1
  exact W.aret hx hb (hr.trans hr1) (Or.inl ⟨_, rfl⟩) (Or.inr ⟨_, rfl⟩) (fun t ht _ => ⟨⟨some (.ref a), h, rfl, hp, by rw [ht]; exact hW⟩, hS.F ht⟩) hS.2.2 hdg hlk
end
section
/-! calls over the abstract world -/
theorem tb_in {y : MethodName} {b : ByteArray} {nL : Nat} {ret : Option FieldType} (hc : Cond.code y b nL ret ∈ tbG) : GoodIn tbG (.code y b nL ret :: tbG) := by
  intro w hw
  have h1 : w ∈ tbG := by
    rcases List.mem_cons.mp hw with rfl | h
    · exact hc
    · exact h
  exact ⟨h1, good_of_word (List.mem_filter.mp h1).2⟩
theorem Wd.szk {E : EV} {n n' d k : Nat} {h h' : HP} {H H1 : Heap} {z : Nat} (hW : Wd E n h H) (hW1 : Wd E n' h' H1) (hn : n' = n + d) (hz : H.size = z + k) : H1.size = z + (k + d) := by
  have h1 := hW.2.1
  have h2 := hW1.2.1
  have h3 := hW.1
  omega
/-- what the tables say of a method -/
def MF (y : MethodName) (b : ByteArray) (nL : Nat) (ret : Option FieldType) (np : Nat) : Prop :=
  Cond.code y b nL ret ∈ tbG ∧ Cond.initialized y.cls ∈ tbG ∧ (y.cls ≠ "java/lang/invoke/MethodHandle" ∧ y.cls ≠ "java/lang/invoke/VarHandle" ∧ (parseMethodDescriptor y.desc).map (fun d => d.parameters.length) = some np) ∧ plainFor y = true
theorem va_F.refl {A : Nat → Prop} (s : State) : va_F A s s := ⟨Nat.le_refl _, fun _ _ _ => rfl⟩
theorem Met.ofWF {l : Launch} {y : MethodName} {ws ws' : List Cond} {rm : Room} {Pc : Array Value → State → Prop} {Qc : Array Value → State → Outcome → State → Prop} {mc ms : Nat} {free : Addr → Prop} {b : ByteArray} {maxL : Nat} {ret : Option FieldType} (hy : plainFor y = true) (hw : ws = Cond.code y b maxL ret :: ws')
    (body : ∀ p e s m args below meth c s₁, BodyLoose p l y (headSpec ws rm) b maxL ret e s m args below meth c s₁ → c.maxLocals = maxL → Pc args s →
      W p l e (headSpec ws rm).room s m args below meth c s.heap [] 0 0 (MQ below Qc args s mc ms free) (entryFrame m args maxL)) : Met l y ws rm Pc Qc mc ms free := by
  refine MetFree.of_bodySF (code := b) (maxLocals := maxL) (ret := ret) hy ?_ ?_
  · intro args s m h hn
    obtain ⟨meth, c, h1, h2, h3, h4, h5, h6, -, -⟩ := Cond.code_spec hn (atoms_spec (ws := ws) h _ (by rw [hw]; exact List.mem_cons_self))
    exact ⟨meth, c, h1, h2, h3, h4, h5, h6⟩
  · intro p e s m args below meth c s₁ B hml hP _
    obtain ⟨t, a1, o, b1, b2, b3⟩ := body p e s m args below meth c s₁ B hml hP s₁ (by rw [B.state]; rfl) (Stand.of_body B)
    exact ⟨t, o, a1, b1, b2, b3.1, b3.2⟩
/-- a contract out of the walk of its body -/
theorem AM.intro {l : Launch} {y : MethodName} {b : ByteArray} {nL np : Nat} {ret : Option FieldType} {fr lo mc ms : Nat} {E : EV} {n : Nat} {h : HP} {As : List Value} {post : Option Value → HP → Prop} (hy : MF y b nL ret np) (hcat : ∀ v ∈ As, v.category = 1) (hlen : As.length ≤ nL)
    (body : ∀ X : CX, X.l = l → X.E = E → X.2.2.2.2.2.2.2.2.1.name = y.name → Cx X y.cls b ret fr lo mc ms (n + mc) post → AW X n h 0 0 0 (As.map some ++ List.replicate (nL - As.length) none) []) : AM l y b nL ret fr lo mc ms E n h As post := by
  refine Met.ofWF (b := b) (maxL := nL) (ret := ret) hy.2.2.2 rfl ?_
  intro p e s m args below meth c s₁ B hml hv
  obtain ⟨rfl, hW, hK⟩ := hv
  have hts := atoms_spec (ws := .code y b nL ret :: tbG) B.pre
  have hb := body (p, l, e, (headSpec (.code y b nL ret :: tbG) (rmA fr lo mc ms)).room, s, m, (As.map (cv E)).toArray, below, meth, c, MQ below (AQ E (n + mc) post) (As.map (cv E)).toArray s mc ms (eA E), E, nL) rfl rfl
    (name_of_methodNamed B.named B.method).1
    ⟨B.exec, B.bytes, hml, findClass_of_methodNamed B.named, fun w hw => hts w (List.mem_cons_of_mem _ hw), hK, B.notSynchronized, B.returns, rfl, rfl⟩
  rw [lg_entry_eq]
  have hcat' : ∀ v ∈ As.map (cv E), v.category = 1 := by
    intro v hv
    obtain ⟨w, h1, rfl⟩ := List.mem_map.mp hv
    exact (cv_cat E w).trans (hcat w h1)
  have hsl : lg_sl (As.map (cv E)) = (As.map (cv E)).map Slot.val := lg_sl_one _ hcat'
  have hle : (lg_sl (As.map (cv E))).length ≤ nL := by rw [hsl, List.length_map, List.length_map]; exact hlen
  have hl := lv_entry (As.map (cv E)) (n := nL) hle
  refine hb s.heap [] _ hW va_S.rf rfl ⟨hl.1, hl.2.1, ?_, ?_⟩
  · rw [List.length_append, List.length_map, List.length_replicate]
    omega
  · intro i v hi
    rcases Nat.lt_or_ge i As.length with q | q
    · rw [List.getElem?_append_left (by rw [List.length_map]; exact q), List.getElem?_map] at hi
      obtain ⟨w, h1, h2⟩ := Option.map_eq_some_iff.mp hi
      cases h2
      refine ⟨?_, hcat _ (List.mem_of_getElem? h1)⟩
      rw [hsl, List.getElem?_toArray, List.getElem?_append_left (by rw [List.length_map, List.length_map]; exact q), List.getElem?_map, List.getElem?_map, h1]
      rfl
    · rw [List.getElem?_append_right (by rw [List.length_map]; exact q)] at hi
      have := List.mem_of_getElem? hi
      exact absurd (List.eq_of_mem_replicate this) (by simp)
theorem blindA {E : EV} {n : Nat} {h : HP} {As : List Value} : FrameBlind (va_Pc As (fun U => Wd E n h U.heap ∧ Ks E U)) := fun a U g mk q =>
  ⟨q.1, q.2.1, q.2.2.moved (u := U) (U := U.calling g mk a) (State.WarmedH.refl U) (Nat.le_refl _) (fun _ _ _ => rfl)⟩
theorem W.ofRun {p : Program} {l : Launch} {e : Env} {R : Room} {s : State} {m : MethodId} {args a : Array Value} {below : List Frame} {meth : Method} {c : Code} {H : Heap} {locs : List Loc} {cells slots mc ms pc n' : Nat} {ls : Array Slot} {st0 rest : List Value} {Q : State → Prop} {E : EV} {post : Option Value → HP → Prop}
    (hr : va_Run p l e R s m args below meth c H locs cells slots mc ms (F0 m pc ls st0) rest (AQ E n' post a) (eA E)) (hS : va_S (eA E) s.heap H locs)
    (kk : ∀ (v : Option Value) (h' : HP) (H1 : Heap) (locs1 : List Loc), post v h' → Wd E n' h' H1 → va_S (eA E) s.heap H1 locs1 → W p l e R s m args below meth c H1 locs1 (cells + mc) (slots + ms) Q (F0 m (pc + 3) ls ((v.map (cv E)).toList ++ rest))) : W p l e R s m args below meth c H locs cells slots Q (F0 m pc ls st0) := by
  intro T hT X
  obtain ⟨v, st₀, t, T', L, h0, X', hL, e1, e2, ⟨⟨w, h', hv, hp, hw⟩, hz, hk⟩, st⟩ := hr T hT X
  cases hv
  rw [h0] at hz hk
  obtain ⟨t2, a1, b1⟩ := kk w h' T'.heap (locs ++ L) hp (by rw [e1]; exact hw)
    ⟨Nat.le_trans hS.1 (by rw [e1]; exact hz), fun q h1 h2 => by rw [e1, hk q (Nat.lt_of_lt_of_le h1 hS.1) h2]; exact hS.2.1 q h1 h2, fun q hq => by
      rcases List.mem_append.mp hq with h | h
      · exact hS.2.2 q h
      · exact hL q h⟩ T' rfl X'
  exact ⟨t2, st t2 a1, b1⟩
theorem cv_toList (E : EV) (v : Option Value) (st : List Value) : (v.map (cv E)).toList ++ st.map (cv E) = (v.toList ++ st).map (cv E) := by cases v <;> rfl
theorem cat_map (E : EV) (st : List Value) : ((st.map (cv E)).map fun v => v.category) = st.map fun v => v.category := by
  rw [List.map_map]
  exact List.map_congr_left (fun v _ => cv_cat E v)
theorem Ks.at {E : EV} {s U : State} {H : Heap} {locs : List Loc} (hK : Ks E s) (hS : va_S (eA E) s.heap H locs) (hU : U.heap = H) (hW : s.WarmedH U.vm) : Ks E U :=
  hK.moved hW (by rw [hU]; exact hS.1) (fun a h1 h2 => by rw [hU]; exact hS.2.1 a h1 h2)
section ACALL
variable {X : CX} {own : String} {bytes : ByteArray} {ret : Option FieldType} {fr lo mc ms n1 : Nat} {post : Option Value → HP → Prop} {n k sl pc : Nat} {h : HP} {L : List (Option Value)} {st st0 : List Value}
variable {y : MethodName} {b' : ByteArray} {nL' np : Nat} {ret' : Option FieldType} {fr' lo' mc' ms' ix a ci : Nat} {As fs : List Value} {post' : Option Value → HP → Prop} {C : String} {T : u_T} {N : Nat}
/-- an instance method of the class that the receiver has -/
theorem aw_callV (hX : Cx X own bytes ret fr lo mc ms n1 post) (own2 : String) (ho : own2 = own) (hM : AM X.l y b' nL' ret' fr' lo' mc' ms' X.E n h (.ref a :: As) post') (hst0 : As.reverse ++ .ref a :: st = st0) (hy : MF y b' nL' ret' np) (hi : Cond.instanceMethod y ∈ tbG) (hsel : Cond.selects y.cls y y ∈ tbG) (hlink : Cond.methodLink own2 ix y ∈ tbG)
    (hh : h a = some (cO ci fs)) (hcl : vwCl[ci]? = some (y.cls, T, N)) (hnp : As.length = np) (hR : fr' + 1 ≤ fr ∧ 8 + (nL' + 11) + lo' ≤ lo) (hst : (st.map fun v => v.category).sum ≤ 8) (hdg : decode bytes pc = .ok (.invokevirtual ix, 3)) (hf : k + mc' ≤ mc ∧ sl + ms' ≤ ms)
    (kk : ∀ v h', post' v h' → AW X (n + mc') h' (k + mc') (sl + ms') (pc + 3) L (v.toList ++ st)) : AW X n h k sl pc L st0 := by
  obtain ⟨p, l, e, R, s, m, args, below, meth, c, Q, E, nL⟩ := X
  obtain ⟨hx, hb, hml, hown, hts, hK, hlk, hr, rfl, hQ⟩ := hX
  subst ho
  subst hst0
  intro H locs ls hW hS hz hl
  obtain ⟨ws, q0, hP, hD, hq, -⟩ := Wd.list hW hh
  refine W.ofRun (va_runV (As := As.map (cv E)) (rest := st.map (cv E)) (b := ad E a) (C := y.cls) ⟨hx, hb, hml, hown, hts⟩ hM ⟨callB_of np hts (tb_in hy.1) rfl rfl rfl (hts _ hy.2.1) (hts _ hlink) hy.2.2.1 hR, hts _ hi, hts _ hsel⟩
    ⟨blindA, va_recv hK.1 hP hcl hq, fun U hU hWm => ⟨rfl, by rw [hU]; exact hW, hK.at hS hU hWm⟩⟩ rfl (by rw [List.length_map]; exact hnp) hl.1 (by simp [cv_ref]) (by rw [cat_map]; exact lv_room hst) hdg hf) hS (fun v h' H1 locs1 hp hW1 hS1 => ?_)
  rw [cv_toList]
  exact kk v h' hp H1 locs1 ls hW1 hS1 (Wd.szk hW hW1 rfl hz) hl
/-- the same, of a nest mate -/
theorem aw_callVN (hX : Cx X own bytes ret fr lo mc ms n1 post) (own2 host : String) (ho : own2 = own) (hM : AM X.l y b' nL' ret' fr' lo' mc' ms' X.E n h (.ref a :: As) post') (hst0 : As.reverse ++ .ref a :: st = st0) (hy : MF y b' nL' ret' np) (hi : Cond.instanceMethod y ∈ tbG) (hsel : Cond.selects y.cls y y ∈ tbG) (hlink : Cond.methodLinkNest own2 ix y host ∈ lw_tbl)
    (hh : h a = some (cO ci fs)) (hcl : vwCl[ci]? = some (y.cls, T, N)) (hnp : As.length = np) (hR : fr' + 1 ≤ fr ∧ 8 + (nL' + 11) + lo' ≤ lo) (hst : (st.map fun v => v.category).sum ≤ 8) (hdg : decode bytes pc = .ok (.invokevirtual ix, 3)) (hf : k + mc' ≤ mc ∧ sl + ms' ≤ ms)
    (kk : ∀ v h', post' v h' → AW X (n + mc') h' (k + mc') (sl + ms') (pc + 3) L (v.toList ++ st)) : AW X n h k sl pc L st0 := by
  obtain ⟨p, l, e, R, s, m, args, below, meth, c, Q, E, nL⟩ := X
  obtain ⟨hx, hb, hml, hown, hts, hK, hlk, hr, rfl, hQ⟩ := hX
  subst ho
  subst hst0
  intro H locs ls hW hS hz hl
  obtain ⟨ws, q0, hP, hD, hq, -⟩ := Wd.list hW hh
  refine W.ofRun (va_runVN (As := As.map (cv E)) (rest := st.map (cv E)) (b := ad E a) (C := y.cls) ⟨hx, hb, hml, hown, hts⟩ hM ⟨va_cnB np hts (tb_in hy.1) rfl rfl rfl (hK.nest hlink rfl) (hts _ hy.2.1) hy.2.2.1 hR, hts _ hi, hts _ hsel⟩
    ⟨blindA, va_recv hK.1 hP hcl hq, fun U hU hWm => ⟨rfl, by rw [hU]; exact hW, hK.at hS hU hWm⟩⟩ rfl (by rw [List.length_map]; exact hnp) hl.1 (by simp [cv_ref]) (by rw [cat_map]; exact lv_room hst) hdg hf) hS (fun v h' H1 locs1 hp hW1 hS1 => ?_)
  rw [cv_toList]
  exact kk v h' hp H1 locs1 ls hW1 hS1 (Wd.szk hW hW1 rfl hz) hl
/-- a static method -/
theorem aw_callS (hX : Cx X own bytes ret fr lo mc ms n1 post) (own2 : String) (ho : own2 = own) (hM : AM X.l y b' nL' ret' fr' lo' mc' ms' X.E n h As post') (hst0 : As.reverse ++ st = st0) (hy : MF y b' nL' ret' np) (hs : Cond.static y ∈ tbG) (hlink : Cond.methodLink own2 ix y ∈ tbG)
    (hnp : As.length = np) (hR : fr' + 1 ≤ fr ∧ 8 + (nL' + 11) + lo' ≤ lo) (hst : (st.map fun v => v.category).sum ≤ 8) (hdg : decode bytes pc = .ok (.invokestatic ix, 3)) (hf : k + mc' ≤ mc ∧ sl + ms' ≤ ms)
    (kk : ∀ v h', post' v h' → AW X (n + mc') h' (k + mc') (sl + ms') (pc + 3) L (v.toList ++ st)) : AW X n h k sl pc L st0 := by
  obtain ⟨p, l, e, R, s, m, args, below, meth, c, Q, E, nL⟩ := X
  obtain ⟨hx, hb, hml, hown, hts, hK, hlk, hr, rfl, hQ⟩ := hX
  subst ho
  subst hst0
  intro H locs ls hW hS hz hl
  refine W.ofRun (va_runS (As := As.map (cv E)) (rest := st.map (cv E)) ⟨hx, hb, hml, hown, hts⟩ hM ⟨callB_of np hts (tb_in hy.1) rfl rfl rfl (hts _ hy.2.1) (hts _ hlink) hy.2.2.1 hR, hts _ hs⟩
    ⟨blindA, fun U hU hWm => ⟨rfl, by rw [hU]; exact hW, hK.at hS hU hWm⟩⟩ rfl (by rw [List.length_map]; exact hnp) hl.1 (by simp) (by rw [cat_map]; exact lv_room hst) hdg hf) hS (fun v h' H1 locs1 hp hW1 hS1 => ?_)
  rw [cv_toList]
  exact kk v h' hp H1 locs1 ls hW1 hS1 (Wd.szk hW hW1 rfl hz) hl
/-- a static method of a nest mate -/
theorem aw_callSN (hX : Cx X own bytes ret fr lo mc ms n1 post) (own2 host : String) (ho : own2 = own) (hM : AM X.l y b' nL' ret' fr' lo' mc' ms' X.E n h As post') (hst0 : As.reverse ++ st = st0) (hy : MF y b' nL' ret' np) (hs : Cond.static y ∈ tbG) (hlink : Cond.methodLinkNest own2 ix y host ∈ lw_tbl)
    (hnp : As.length = np) (hR : fr' + 1 ≤ fr ∧ 8 + (nL' + 11) + lo' ≤ lo) (hst : (st.map fun v => v.category).sum ≤ 8) (hdg : decode bytes pc = .ok (.invokestatic ix, 3)) (hf : k + mc' ≤ mc ∧ sl + ms' ≤ ms)
    (kk : ∀ v h', post' v h' → AW X (n + mc') h' (k + mc') (sl + ms') (pc + 3) L (v.toList ++ st)) : AW X n h k sl pc L st0 := by
  obtain ⟨p, l, e, R, s, m, args, below, meth, c, Q, E, nL⟩ := X
  obtain ⟨hx, hb, hml, hown, hts, hK, hlk, hr, rfl, hQ⟩ := hX
  subst ho
  subst hst0
  intro H locs ls hW hS hz hl
  refine W.ofRun (va_runSN (As := As.map (cv E)) (rest := st.map (cv E)) ⟨hx, hb, hml, hown, hts⟩ hM ⟨va_cnB np hts (tb_in hy.1) rfl rfl rfl (hK.nest hlink rfl) (hts _ hy.2.1) hy.2.2.1 hR, hts _ hs, trivial⟩
    ⟨blindA, fun U hU hWm => ⟨rfl, by rw [hU]; exact hW, hK.at hS hU hWm⟩⟩ rfl (by rw [List.length_map]; exact hnp) hl.1 (by simp) (by rw [cat_map]; exact lv_room hst) hdg hf) hS (fun v h' H1 locs1 hp hW1 hS1 => ?_)
  rw [cv_toList]
  exact kk v h' hp H1 locs1 ls hW1 hS1 (Wd.szk hW hW1 rfl hz) hl
/-- a constructor -/
theorem aw_callI (hX : Cx X own bytes ret fr lo mc ms n1 post) (own2 : String) (ho : own2 = own) (hM : AM X.l y b' nL' none fr' lo' mc' ms' X.E n h (.ref a :: As) post') (hst0 : As.reverse ++ .ref a :: st = st0) (hy : MF y b' nL' none np) (hi : Cond.instanceMethod y ∈ tbG) (hy1 : y.name = "<init>") (hlink : Cond.methodLink own2 ix y ∈ tbG)
    (hnp : As.length = np) (hR : fr' + 1 ≤ fr ∧ 8 + (nL' + 11) + lo' ≤ lo) (hst : (st.map fun v => v.category).sum ≤ 8) (hdg : decode bytes pc = .ok (.invokespecial ix, 3)) (hf : k + mc' ≤ mc ∧ sl + ms' ≤ ms)
    (kk : ∀ v h', post' v h' → AW X (n + mc') h' (k + mc') (sl + ms') (pc + 3) L (v.toList ++ st)) : AW X n h k sl pc L st0 := by
  obtain ⟨p, l, e, R, s, m, args, below, meth, c, Q, E, nL⟩ := X
  obtain ⟨hx, hb, hml, hown, hts, hK, hlk, hr, rfl, hQ⟩ := hX
  subst ho
  subst hst0
  intro H locs ls hW hS hz hl
  refine W.ofRun (va_runI (As := As.map (cv E)) (rest := st.map (cv E)) (b := ad E a) ⟨hx, hb, hml, hown, hts⟩ hM ⟨callB_of np hts (tb_in hy.1) rfl rfl rfl (hts _ hy.2.1) (hts _ hlink) hy.2.2.1 hR, hy1, hts _ hi⟩
    ⟨blindA, fun U hU hWm => ⟨rfl, by rw [hU]; exact hW, hK.at hS hU hWm⟩⟩ rfl (by rw [List.length_map]; exact hnp) hl.1 (by simp [cv_ref]) (by rw [cat_map]; exact lv_room hst) hdg hf) hS (fun v h' H1 locs1 hp hW1 hS1 => ?_)
  rw [cv_toList]
  exact kk v h' hp H1 locs1 ls hW1 hS1 (Wd.szk hW hW1 rfl hz) hl
/-- a constructor of a nest mate -/
theorem aw_callIN (hX : Cx X own bytes ret fr lo mc ms n1 post) (own2 host : String) (ho : own2 = own) (hM : AM X.l y b' nL' none fr' lo' mc' ms' X.E n h (.ref a :: As) post') (hst0 : As.reverse ++ .ref a :: st = st0) (hy : MF y b' nL' none np) (hi : Cond.instanceMethod y ∈ tbG) (hy1 : y.name = "<init>") (hlink : Cond.methodLinkNest own2 ix y host ∈ lw_tbl)
    (hnp : As.length = np) (hR : fr' + 1 ≤ fr ∧ 8 + (nL' + 11) + lo' ≤ lo) (hst : (st.map fun v => v.category).sum ≤ 8) (hdg : decode bytes pc = .ok (.invokespecial ix, 3)) (hf : k + mc' ≤ mc ∧ sl + ms' ≤ ms)
    (kk : ∀ v h', post' v h' → AW X (n + mc') h' (k + mc') (sl + ms') (pc + 3) L (v.toList ++ st)) : AW X n h k sl pc L st0 := by
  obtain ⟨p, l, e, R, s, m, args, below, meth, c, Q, E, nL⟩ := X
  obtain ⟨hx, hb, hml, hown, hts, hK, hlk, hr, rfl, hQ⟩ := hX
  subst ho
  subst hst0
  intro H locs ls hW hS hz hl
  refine W.ofRun (va_runIN (As := As.map (cv E)) (rest := st.map (cv E)) (b := ad E a) ⟨hx, hb, hml, hown, hts⟩ hM ⟨va_cnB np hts (tb_in hy.1) rfl rfl rfl (hK.nest hlink rfl) (hts _ hy.2.1) hy.2.2.1 hR, hy1, hts _ hi⟩
    ⟨blindA, fun U hU hWm => ⟨rfl, by rw [hU]; exact hW, hK.at hS hU hWm⟩⟩ rfl (by rw [List.length_map]; exact hnp) hl.1 (by simp [cv_ref]) (by rw [cat_map]; exact lv_room hst) hdg hf) hS (fun v h' H1 locs1 hp hW1 hS1 => ?_)
  rw [cv_toList]
  exact kk v h' hp H1 locs1 ls hW1 hS1 (Wd.szk hW hW1 rfl hz) hl
/-- Object.<init> -/
theorem aw_obj (hX : Cx X own bytes ret fr lo mc ms n1 post) (own2 : String) (ho : own2 = own) (hlink : Cond.methodLink own2 ix objectInit ∈ tbG) (hi : Cond.instanceMethod objectInit ∈ tbG) (hc : Cond.code objectInit ⟨#[0xb1]⟩ 1 none ∈ tbG) (hR : 1 ≤ fr ∧ 20 ≤ lo) (hst : (st.map fun v => v.category).sum ≤ 8) (hdg : decode bytes pc = .ok (.invokespecial ix, 3))
    (kk : AW X n h k sl (pc + 3) L st) : AW X n h k sl pc L (.ref a :: st) := by
  obtain ⟨p, l, e, R, s, m, args, below, meth, c, Q, E, nL⟩ := X
  obtain ⟨hx, hb, hml, hown, hts, hK, hlk, hr, rfl, hQ⟩ := hX
  subst ho
  intro H locs ls hW hS hz hl
  have hst' := lv_room (m := m) (pc := pc) (ls := ls) (rest := (Value.ref a :: st).map (cv E)) hst
  rw [← cat_map E st] at hst'
  exact W.objInit hx hb hown (hts _ hlink) (hts _ hi) (hts _ hc) rfl (hl.1.trans hml.symm) rfl hdg hR.1 (by have := hR.2; show _ ≤ lo; omega) (kk H locs ls hW hS hz hl)
end ACALL
end
section
/-! rows that make cells, and arraycopy -/
section AALLOC
variable {X : CX} {own : String} {bytes : ByteArray} {ret : Option FieldType} {fr lo mc ms n1 : Nat} {post : Option Value → HP → Prop} {n k sl pc : Nat} {h : HP} {L : List (Option Value)} {st : List Value}
theorem cls_int {E : EV} {s : State} (hK : va_K (eD E) vwCl (tysE E) s) : s.vm.findClass "[I" = some (eC E 0) := (hK.2 0 _ rfl).2
theorem cls_st {E : EV} {s : State} (hK : va_K (eD E) vwCl (tysE E) s) : s.vm.findClass ("[" ++ (FieldType.object RX8).toString) = some (eC E 2) := by
  obtain ⟨kA, comp, -, -, -, h⟩ := (hK.2 2 _ rfl).2
  exact h
theorem last_tys {D : va_G} {cl : List vw_C} {tys : List (ClassId × FieldType)} {x : ClassId × FieldType} {s : State} (h : va_K D cl (tys ++ [x]) s) : ArrOfT s x.1 x.2 ∧ va_RA s x.1 x.2 :=
  h.2 tys.length x (by rw [List.getElem?_append_right (Nat.le_refl _), Nat.sub_self]; rfl)
theorem aw_new (hX : Cx X own bytes ret fr lo mc ms n1 post) (own2 : String) (ho : own2 = own) {C : String} {T : u_T} {N ci ix : Nat} {fs : List Value} (hc : vwCl[ci]? = some (C, T, N)) (hin : ∀ w ∈ u_ws C T N, w ∈ tbG) (ty : Nat → FieldType) (hty : ∀ k, k < N → parseFieldDescriptor (T k).2.2.1 = some (ty k))
    (hcl : Cond.classLink own2 ix C ∈ tbG) (hinst : Cond.instantiable C N ∈ tbG) (hini : Cond.initialized C ∈ tbG) (hfs : ∀ j, j < N → defaultValue (ty j) = vp_V fs j) (hfc : fs.map (cv X.E) = fs) (hcells : k + 1 ≤ mc) (hslots : sl + N ≤ ms) (hdg : decode bytes pc = .ok (.new ix, 3))
    (kk : AW X (n + 1) (hset h n (cO ci fs)) (k + 1) (sl + N) (pc + 3) L (.ref n :: st)) : AW X n h k sl pc L st := by
  obtain ⟨p, l, e, R, s, m, args, below, meth, c, Q, E, nL⟩ := X
  obtain ⟨hx, hb, hml, hown, hts, hK, hlk, hr, rfl, hQ⟩ := hX
  subst ho
  intro H locs ls hW hS hz hl
  obtain ⟨ws, hP, hD, hm, -⟩ := hW.all
  refine va_new hx hb hts hin ty hty hown (hts _ hcl) (hts _ hinst) (hts _ hini) hK.1 hP hD hS (fun q hq => Nat.le_trans hK.2.2.2.2.2 hq) hc (fs := fs) hfs hcells hslots hdg (fun q H1 hP1 hD1 hS1 => W.sz (fun hsz => ?_))
  have e1 : ((q, Sum.inr (ci, fs)) : Nat × va_E) = (q, cc E (cO ci fs)) := by
    show _ = ((q, Sum.inr (ci, fs.map (cv E))) : Nat × va_E)
    rw [show fs.map (cv E) = fs from hfc]
  rw [e1] at hP1 hD1
  obtain ⟨rfl, hW1, hz1⟩ := hW.grow hm hP1 hD1 (by omega)
  exact kk H1 locs ls hW1 hS1 (by omega) hl
theorem aw_newarr (hX : Cx X own bytes ret fr lo mc ms n1 post) {z : Int32} (N : Nat) (hac : Cond.arrayClass .int ∈ tbG) (hn : ¬ z < 0) (hN : z.toNatClampNeg = N) (hb4 : N * 4 ≤ 536870912) (hcells : k + 1 ≤ mc) (hslots : sl + N ≤ ms) (hdg : decode bytes pc = .ok (.newarray .int, 2))
    (kk : AW X (n + 1) (hset h n (cI N (fun _ => 0))) (k + 1) (sl + N) (pc + 2) L (.ref n :: st)) : AW X n h k sl pc L (.int z :: st) := by
  obtain ⟨p, l, e, R, s, m, args, below, meth, c, Q, E, nL⟩ := X
  obtain ⟨hx, hb, hml, hown, hts, hK, hlk, hr, rfl, hQ⟩ := hX
  intro H locs ls hW hS hz hl
  obtain ⟨ws, hP, hD, hm, -⟩ := hW.all
  refine va_newa (atype := .int) (ty := .int) hx hb (hts _ hac) rfl hK.1 hP hD hS (fun q hq => Nat.le_trans hK.2.2.2.2.2 hq) (a0 := (N, .inl (fun _ => 0))) (fun _ => rfl) hn hN hb4 hcells hslots hdg (fun q cA H1 hK1 hP1 hD1 hS1 => W.sz (fun hsz => ?_))
  have hcA : cA = eC E 0 := Option.some.inj ((last_tys hK1).2.symm.trans (cls_int hK.1))
  subst hcA
  obtain ⟨rfl, hW1, hz1⟩ := hW.grow (c := cI N (fun _ => 0)) hm hP1 hD1 (by omega)
  exact kk H1 locs ls hW1 hS1 (by omega) hl
/-- new State[N] -/
theorem aw_newst (hX : Cx X own bytes ret fr lo mc ms n1 post) (own2 : String) (ho : own2 = own) {z : Int32} {ix : Nat} (N : Nat) (hcl : Cond.classLink own2 ix RX8 ∈ tbG) (hover : Cond.arrayOver (.object RX8) ∈ lw_tbl) (hn : ¬ z < 0) (hN : z.toNatClampNeg = N) (hb4 : N * 4 ≤ 536870912) (hcells : k + 1 ≤ mc) (hslots : sl + N ≤ ms) (hdg : decode bytes pc = .ok (.anewarray ix, 3))
    (kk : AW X (n + 1) (hset h n (cG 2 N (fun _ => none))) (k + 1) (sl + N) (pc + 3) L (.ref n :: st)) : AW X n h k sl pc L (.int z :: st) := by
  obtain ⟨p, l, e, R, s, m, args, below, meth, c, Q, E, nL⟩ := X
  obtain ⟨hx, hb, hml, hown, hts, hK, hlk, hr, rfl, hQ⟩ := hX
  subst ho
  intro H locs ls hW hS hz hl
  obtain ⟨ws, hP, hD, hm, -⟩ := hW.all
  refine va_newq hx hb hown (hts _ hcl) (hK.2.2.2.2.1 _ hover rfl) hK.1 hP hD hS (fun q hq => Nat.le_trans hK.2.2.2.2.2 hq) hn hN hb4 hcells hslots hdg (fun q cA H1 hK1 hP1 hD1 hS1 => W.sz (fun hsz => ?_))
  have hcA : cA = eC E 2 := by
    obtain ⟨kA, comp, -, -, -, h1⟩ := (last_tys hK1).2
    exact Option.some.inj (h1.symm.trans (cls_st hK.1))
  subst hcA
  obtain ⟨rfl, hW1, hz1⟩ := hW.grow (c := cG 2 N (fun _ => none)) hm hP1 hD1 (by omega)
  exact kk H1 locs ls hW1 hS1 (by omega) hl
/-- a State into an array of them -/
theorem aw_ast (hX : Cx X own bytes ret fr lo mc ms n1 post) {a b N : Nat} {g : Nat → Option Nat} {vs : List Value} {i : Int32} (hh : h a = some (cG 2 N g)) (hv : h b = some (cO 8 vs)) (hin : vp_in i N) (hdg : decode bytes pc = .ok (.aastore, 1))
    (kk : AW X n (hset h a (cG 2 N (va_up g i.toNatClampNeg (some b)))) k sl (pc + 1) L st) : AW X n h k sl pc L (.ref b :: .int i :: .ref a :: st) := by
  obtain ⟨p, l, e, R, s, m, args, below, meth, c, Q, E, nL⟩ := X
  obtain ⟨hx, hb, hml, hown, hts, hK, hlk, hr, rfl, hQ⟩ := hX
  intro H locs ls hW hS hz hl
  obtain ⟨ws, hP, hD, hm, hback⟩ := hW.all
  obtain ⟨q0, hq0⟩ := hm a _ hh
  obtain ⟨qk, hqk⟩ := hm b _ hv
  refine va_astq (r := (RX8, TX8, 4)) hx hb hK.1 hP hD hS q0 2 qk 8 hq0 rfl hqk rfl hin hdg (fun H1 locs1 hP1 hD1 hS1 => W.sz (fun hsz => ?_))
  have e1 : cc E (cG 2 N (va_up g i.toNatClampNeg (some b))) = .inl (eC E 2, N, .inr (.inr (.inr (.inr (va_up (fun i => (g i).map (ad E)) i.toNatClampNeg (some (ad E b))))))) := by
    have : (fun j => (va_up g i.toNatClampNeg (some b) j).map (ad E)) = va_up (fun i => (g i).map (ad E)) i.toNatClampNeg (some (ad E b)) := by
      funext j
      unfold va_up
      split <;> rfl
    show Sum.inl (eC E 2, N, Sum.inr (Sum.inr (Sum.inr (Sum.inr (fun j => (va_up g i.toNatClampNeg (some b) j).map (ad E)))))) = _
    rw [this]
  rw [← e1] at hP1
  obtain ⟨hW1, hz1⟩ := hback a _ q0 hh hq0 _ H1 hP1 (by omega)
  exact kk H1 locs1 ls hW1 hS1 (by omega) hl
/-- System.arraycopy of ints -/
theorem aw_acopy (hX : Cx X own bytes ret fr lo mc ms n1 post) (own2 : String) (ho : own2 = own) {ix a0 a n0 n2 : Nat} {f g : Nat → Int32} {sp dp cnt : Int32} (hlink : Cond.methodLink own2 ix arraycopyName ∈ tbG) (hnat : Cond.native arraycopyName ∈ tbG) (hstat : Cond.static arraycopyName ∈ tbG) (hini : Cond.initialized "java/lang/System" ∈ tbG)
    (hh0 : h a0 = some (cI n0 f)) (hh1 : h a = some (cI n2 g)) (h1 : ¬ sp < 0) (h2 : ¬ dp < 0) (h3 : ¬ cnt < 0) (h4 : sp.toNatClampNeg + cnt.toNatClampNeg ≤ n0) (h5 : dp.toNatClampNeg + cnt.toNatClampNeg ≤ n2) (hR : 1 ≤ fr ∧ 8 + (nativeFrameWords "java/lang/System" "arraycopy" 5 + 11) ≤ lo) (hst : (st.map fun v => v.category).sum ≤ 8) (hdg : decode bytes pc = .ok (.invokestatic ix, 3))
    (kk : AW X n (hset h a (cI n2 (va_cpy f g sp.toNatClampNeg dp.toNatClampNeg cnt.toNatClampNeg))) k sl (pc + 3) L st) : AW X n h k sl pc L (.int cnt :: .int dp :: .ref a :: .int sp :: .ref a0 :: st) := by
  obtain ⟨p, l, e, R, s, m, args, below, meth, c, Q, E, nL⟩ := X
  obtain ⟨hx, hb, hml, hown, hts, hK, hlk, hr, rfl, hQ⟩ := hX
  subst ho
  intro H locs ls hW hS hz hl
  obtain ⟨ws, hP, hD, hm, hback⟩ := hW.all
  obtain ⟨q0, hq0⟩ := hm a0 _ hh0
  obtain ⟨q1, hq1⟩ := hm a _ hh1
  refine va_copyi hx hb (hml.trans hl.1.symm) hown (hts _ hlink) (hts _ hnat) (hts _ hstat) (hts _ hini) hK.1 hP hD hS q0 q1 0 0 hq0 hq1 rfl rfl rfl h1 h2 h3 h4 h5 (fun _ _ => rfl) hR.1 (by rw [cat_map]; have := hR.2; show _ ≤ lo; omega) hdg (fun H1 locs1 hP1 hD1 hS1 => W.sz (fun hsz => ?_))
  obtain ⟨hW1, hz1⟩ := hback a _ q1 hh1 hq1 (cI n2 (va_cpy f g sp.toNatClampNeg dp.toNatClampNeg cnt.toNatClampNeg)) H1 hP1 (by omega)
  exact kk H1 locs1 ls hW1 hS1 (by omega) hl
/-- FIRST_NUMBERS.clone() -/
theorem aw_clone0 (hX : Cx X own bytes ret fr lo mc ms n1 post) (own2 : String) (ho : own2 = own) {ix : Nat} (hlink : Cond.methodLink own2 ix ⟨"[I", "clone", "()Ljava/lang/Object;"⟩ ∈ tbG) (hsame : Cond.sameMethod "[I" "java/lang/Object" "clone" "()Ljava/lang/Object;" ∈ tbG)
    (hnat : Cond.native ⟨"java/lang/Object", "clone", "()Ljava/lang/Object;"⟩ ∈ tbG) (hinst : Cond.instanceMethod ⟨"java/lang/Object", "clone", "()Ljava/lang/Object;"⟩ ∈ tbG) (hsel : Cond.selects "[I" ⟨"[I", "clone", "()Ljava/lang/Object;"⟩ ⟨"java/lang/Object", "clone", "()Ljava/lang/Object;"⟩ ∈ tbG) (hcs : Cond.castable "[I" "java/lang/Cloneable" ∈ lw_tbl)
    (hR : 1 ≤ fr ∧ 22 ≤ lo) (hst : (st.map fun v => v.category).sum ≤ 8) (hcells : k + 1 ≤ mc) (hslots : sl + 3 ≤ ms) (hdg : decode bytes pc = .ok (.invokevirtual ix, 3))
    (kk : AW X (n + 1) (hset h n (cI 3 (eF X.E 0))) (k + 1) (sl + 3) (pc + 3) L (.ref n :: st)) : AW X n h k sl pc L (.ref 0 :: st) := by
  obtain ⟨p, l, e, R, s, m, args, below, meth, c, Q, E, nL⟩ := X
  obtain ⟨hx, hb, hml, hown, hts, hK, hlk, hr, rfl, hQ⟩ := hX
  subst ho
  intro H locs ls hW hS hz hl
  obtain ⟨ws, hP, hD, hm, -⟩ := hW.all
  have h0 : ¬ eA E (eT E 0) := (hK.2.2.1 0 (by decide)).choose_spec.2.2.2.2.2.2
  have hc0 : H[eT E 0]? = some (vp_cell (eC E 0) (3, .inl (eF E 0))) := by
    rw [hS.2.1 _ (Array.getElem?_eq_some_iff.mp hK.2.2.2.1).1 h0]
    exact hK.2.2.2.1
  have hws : ∀ (j : Nat) (x : Nat × va_E), ws[j]? = some x → x.1 ≠ eT E 0 := fun j x hj e => h0 (by rw [← e]; exact hD.2 j x hj)
  have hP' : va_P (eD E) vwCl (ws ++ [(eT E 0, .inl (eC E 0, 3, .inl (eF E 0)))]) H := hP.app (fun k q hk => by
    have hz : k < 1 := (List.getElem?_eq_some_iff.mp hk).1
    rw [show k = 0 by omega] at hk
    cases hk
    exact hc0)
  have hD' : va_D (fun q => eA E q ∨ q = eT E 0) (ws ++ [(eT E 0, .inl (eC E 0, 3, .inl (eF E 0)))]) := by
    refine (hD.weaken (fun _ _ _ h => Or.inl h)).app ⟨fun i j x y hi hj _ => ?_, fun k q hk => ?_⟩ (fun i j x y hi hj => ?_)
    · have hz1 : i < 1 := (List.getElem?_eq_some_iff.mp hi).1
      have hz2 : j < 1 := (List.getElem?_eq_some_iff.mp hj).1
      omega
    · have hz1 : k < 1 := (List.getElem?_eq_some_iff.mp hk).1
      rw [show k = 0 by omega] at hk
      cases hk
      exact Or.inr rfl
    · have hz1 : j < 1 := (List.getElem?_eq_some_iff.mp hj).1
      rw [show j = 0 by omega] at hj
      cases hj
      exact hws i x hi
  have hS' : va_S (fun q => eA E q ∨ q = eT E 0) s.heap H locs := ⟨hS.1, fun q h1 h2 => hS.2.1 q h1 (fun z => h2 (Or.inl z)), fun q hq => Or.inl (hS.2.2 q hq)⟩
  have hlast : (ws ++ [(eT E 0, (.inl (eC E 0, 3, .inl (eF E 0)) : va_E))])[ws.length]? = some (eT E 0, .inl (eC E 0, 3, .inl (eF E 0))) := by rw [List.getElem?_append_right (Nat.le_refl _), Nat.sub_self]; rfl
  have ea : cv E (.ref 0) = .ref (eT E 0) := rfl
  show W p l e _ s m args below meth c H locs k sl Q (F0 m pc ls (cv E (.ref 0) :: st.map (cv E)))
  rw [ea]
  refine va_clone hx hb (hml.trans hl.1.symm) hown (hts _ hlink) (hts _ hsame) (hts _ hnat) (hts _ hinst) (hts _ hsel) (hK.2.2.2.2.1 _ hcs rfl) hK.1 hP' hD' hS' (fun q hq => Or.inl (Nat.le_trans hK.2.2.2.2.2 hq)) ws.length 0 hlast rfl (cls_int hK.1) (fun i v hv => ?_) hR.1 (by rw [cat_map]; have := hR.2; show _ ≤ lo; omega) hcells hslots hdg (fun q H1 hK1 hP1 hD1 hS1 => W.sz (fun hsz => ?_))
  · have hlt : i < 3 := by
      have := (Array.getElem?_eq_some_iff.mp hv).1
      simpa [vp_cell, arrV] using this
    have hv2 : (vp_cell (eC E 0) (3, .inl (eF E 0))).slots[i]? = some (.int (eF E 0 i)) := arrV_read _ _ hlt
    rw [hv2] at hv
    cases hv
    rfl
  · have hat : ∀ (j : Nat) (x : Nat × va_E), (ws ++ [(q, cc E (cI 3 (eF E 0)))])[j]? = some x → ∃ j', ((ws ++ [(eT E 0, (.inl (eC E 0, 3, .inl (eF E 0)) : va_E))]) ++ [(q, .inl (eC E 0, 3, .inl (eF E 0)))])[j']? = some x ∧ (j < ws.length → j' = j) ∧ (ws.length ≤ j → j' = ws.length + 1 ∧ j = ws.length) := by
      intro j x hj
      by_cases hjl : j < ws.length
      · refine ⟨j, ?_, fun _ => rfl, fun h => absurd hjl (by omega)⟩
        rw [List.getElem?_append_left hjl] at hj
        rw [List.getElem?_append_left (by rw [List.length_append]; omega), List.getElem?_append_left hjl]
        exact hj
      · rw [List.getElem?_append_right (by omega)] at hj
        have hz1 : j - ws.length < 1 := (List.getElem?_eq_some_iff.mp hj).1
        refine ⟨ws.length + 1, ?_, fun h => absurd h hjl, fun _ => ⟨rfl, by omega⟩⟩
        rw [List.getElem?_append_right (by simp)]
        rw [show j - ws.length = 0 by omega] at hj
        simp at hj ⊢
        exact hj
    have hP2 : va_P (eD E) vwCl (ws ++ [(q, cc E (cI 3 (eF E 0)))]) H1 := fun j x hj => by
      obtain ⟨j', h1, -, -⟩ := hat j x hj
      exact hP1 j' x h1
    have hqA : eA E q := by
      have h1 := hD1.2 (ws.length + 1) (q, .inl (eC E 0, 3, .inl (eF E 0))) (by rw [List.getElem?_append_right (by simp)]; simp)
      rcases h1 with h1 | h1
      · exact h1
      · have h2 := hD1.1 ws.length (ws.length + 1) (eT E 0, .inl (eC E 0, 3, .inl (eF E 0))) (q, .inl (eC E 0, 3, .inl (eF E 0))) (by rw [List.getElem?_append_left (by simp)]; exact hlast) (by rw [List.getElem?_append_right (by simp)]; simp) h1.symm
        omega
    have hD2 : va_D (eA E) (ws ++ [(q, cc E (cI 3 (eF E 0)))]) := by
      refine ⟨fun i j x y hi hj hxy => ?_, fun j x hj => ?_⟩
      · obtain ⟨i', a1, a2, a3⟩ := hat i x hi
        obtain ⟨j', b1, b2, b3⟩ := hat j y hj
        have := hD1.1 i' j' x y a1 b1 hxy
        rcases Nat.lt_or_ge i ws.length with u | u <;> rcases Nat.lt_or_ge j ws.length with w | w
        · have := a2 u; have := b2 w; omega
        · have := a2 u; have := b3 w; omega
        · have := a3 u; have := b2 w; omega
        · have := a3 u; have := b3 w; omega
      · rcases Nat.lt_or_ge j ws.length with u | u
        · rw [List.getElem?_append_left u] at hj
          exact hD.2 j x hj
        · rw [List.getElem?_append_right u] at hj
          have hz1 : j - ws.length < 1 := (List.getElem?_eq_some_iff.mp hj).1
          rw [show j - ws.length = 0 by omega] at hj
          cases hj
          exact hqA
    have hkeep : H1[eT E 0]? = s.heap[eT E 0]? := by
      have h1 := hP1 ws.length (eT E 0, .inl (eC E 0, 3, .inl (eF E 0))) (by rw [List.getElem?_append_left (by simp)]; exact hlast)
      exact (show H1[eT E 0]? = some (vp_cell (eC E 0) (3, .inl (eF E 0))) from h1).trans hK.2.2.2.1.symm
    have hS2 : va_S (eA E) s.heap H1 locs := ⟨hS1.1, fun x h1 h2 => by
      by_cases ex : x = eT E 0
      · rw [ex]; exact hkeep
      · exact hS1.2.1 x h1 (fun z => z.elim h2 ex), hS.2.2⟩
    obtain ⟨rfl, hW1, hz1⟩ := hW.grow hm hP2 hD2 (by omega)
    exact kk H1 locs ls hW1 hS2 (by omega) hl
/-- a cast of an array of ints to its own class -/
theorem aw_castI (hX : Cx X own bytes ret fr lo mc ms n1 post) (own2 : String) (ho : own2 = own) {ix a N : Nat} {f : Nat → Int32} (hlink : Cond.classLink own2 ix "[I" ∈ tbG) (hh : h a = some (cI N f)) (hdg : decode bytes pc = .ok (.checkcast ix, 3))
    (kk : AW X n h k sl (pc + 3) L (.ref a :: st)) : AW X n h k sl pc L (.ref a :: st) := by
  obtain ⟨p, l, e, R, s, m, args, below, meth, c, Q, E, nL⟩ := X
  obtain ⟨hx, hb, hml, hown, hts, hK, hlk, hr, rfl, hQ⟩ := hX
  subst ho
  intro H locs ls hW hS hz hl
  obtain ⟨ws, q0, hP, hD, hq, -⟩ := Wd.list hW hh
  exact va_castA hx hb hown (hts _ hlink) hP q0 hq (cls_int hK.1) hdg (kk H locs ls hW hS hz hl)
end AALLOC
end
section
/-! new int[N][K] -/
def hmna (h : HP) (n N K : Nat) : HP := fun q => if q = n then some (cG 1 N (fun i => if i < N then some (n + 1 + i) else none)) else if n < q ∧ q ≤ n + N then some (cI K (fun _ => 0)) else h q
theorem mna_outer (c : ClassId) (N h0 : Nat) : ∀ i : Nat, Jvm.Free.Multi.outerC c N h0 i = arrV c N (fun j => va_rf (if j < i then some (h0 + 1 + j) else none))
  | 0 => by
    show ({ cls := c, slots := Array.replicate N .null, vm := .none } : Cell) = _
    rw [arrV_new]
    refine congrArg (arrV c N) (funext fun j => ?_)
    simp [va_rf]
  | i + 1 => by
    show (Jvm.Free.Multi.outerC c N h0 i).setSlot i (.ref (h0 + 1 + i)) = _
    rw [mna_outer c N h0 i, arrV_store]
    refine congrArg (arrV c N) (funext fun j => ?_)
    by_cases e : j = i
    · subst e
      simp [updV, va_rf]
    · by_cases h : j < i
      · simp [updV, e, h, Nat.lt_succ_of_lt h]
      · simp [updV, e, h, show ¬ j < i + 1 by omega]
theorem aw_mna {X : CX} {own : String} {bytes : ByteArray} {ret : Option FieldType} {fr lo mc ms n1 : Nat} {post : Option Value → HP → Prop} {n k sl pc : Nat} {h : HP} {L : List (Option Value)} {st : List Value} (hX : Cx X own bytes ret fr lo mc ms n1 post) (own2 : String) (ho : own2 = own) {ix : Nat} {z y : Int32} (N K : Nat) (hcl : Cond.classLink own2 ix "[[I" ∈ tbG) (hover : Cond.arrayOver (.array .int) ∈ lw_tbl) (hac : Cond.arrayClass .int ∈ tbG)
    (hn : ¬ z < 0) (hy : ¬ y < 0) (hN : z.toNatClampNeg = N) (hK' : y.toNatClampNeg = K) (hb1 : N * 4 ≤ 536870912) (hb2 : K * 4 ≤ 536870912) (hcells : k + (1 + N) ≤ mc) (hslots : sl + (N + N * K) ≤ ms) (hdg : decode bytes pc = .ok (.multianewarray ix 2, 4))
    (kk : AW X (n + 1 + N) (hmna h n N K) (k + 1 + N) (sl + N + N * K) (pc + 4) L (.ref n :: st)) : AW X n h k sl pc L (.int y :: .int z :: st) := by
  obtain ⟨p, l, e, R, s, m, args, below, meth, c, Q, E, nL⟩ := X
  obtain ⟨hx, hb, hml, hown, hts, hK, hlk, hr, rfl, hQ⟩ := hX
  subst ho
  subst hN
  subst hK'
  intro H locs ls hW hS hz hl T hT Xs
  obtain ⟨vm₁, cA, comp, -, fA, fC, hO, -, X', step⟩ := Xs.multianewarray2F (ty := .int) hx hown (hts _ hcl) (hK.nest hover rfl) (hts _ hac) (g := F0 m pc ls (.int y :: .int z :: st.map (cv E))) rfl (by rw [hb]; exact hdg) rfl hn hy hb1 hb2 (by omega) rfl rfl hcells hslots
  have ec : eC E 0 = comp := Option.some.inj ((cls_int hK.1).symm.trans fC)
  have eA1 : eC E 1 = cA := Option.some.inj ((show s.vm.findClass "[[I" = some (eC E 1) from (hK.1.2 1 _ rfl).2).symm.trans fA)
  subst ec
  subst eA1
  generalize hF : Jvm.Free.Multi.fill (T.setVm vm₁) (eC E 1) (eC E 0) z.toNatClampNeg y.toNatClampNeg (defaultValue .int) z.toNatClampNeg = F at X' step
  have hTh : (T.setVm vm₁).heap = H := hT
  obtain ⟨f1, f2, -, -⟩ := Jvm.Free.Multi.fill_facts (T.setVm vm₁) (eC E 1) (eC E 0) z.toNatClampNeg y.toNatClampNeg (defaultValue .int) z.toNatClampNeg
  rw [hF, hTh] at f1 f2
  have hold : ∀ x : Nat, x < H.size → F.heap[x]? = H[x]? := fun x hx => by
    have := Jvm.Free.Multi.fill_old (T.setVm vm₁) (eC E 1) (eC E 0) z.toNatClampNeg y.toNatClampNeg (defaultValue .int) (a := x) (by rw [hTh]; exact hx) z.toNatClampNeg
    rw [hF, hTh] at this
    exact this
  have hrow : ∀ j : Nat, j < z.toNatClampNeg → F.heap[H.size + 1 + j]? = some (vp_cell (eC E 0) (y.toNatClampNeg, .inl (fun _ => 0))) := fun j hj => by
    have := Jvm.Free.Multi.fill_inner (T.setVm vm₁) (eC E 1) (eC E 0) z.toNatClampNeg y.toNatClampNeg (defaultValue .int) z.toNatClampNeg j hj
    rw [hF, hTh] at this
    rw [this, vp_cell_i]
    exact congrArg some (arrV_new _ _ _)
  rw [mna_outer] at f2
  obtain ⟨h5, hzz, hc, hf⟩ := hW
  have eH : H.size = ad E n := by rw [ad_in h5]; exact hzz
  have hW1 : Wd E (n + 1 + z.toNatClampNeg) (hmna h n z.toNatClampNeg y.toNatClampNeg) F.heap := by
    refine ⟨by omega, by rw [f1]; omega, fun p c1 hp => ?_, fun p g1 g2 => ?_⟩
    · unfold hmna at hp
      split at hp
      · rename_i e1
        cases hp
        subst e1
        refine ⟨h5, by omega, ?_⟩
        show F.heap[ad E p]? = some (vp_cell _ _)
        rw [← eH, f2, vp_cell_q]
        refine congrArg some (congrArg (arrV _ _) (funext fun j => ?_))
        by_cases hj : j < z.toNatClampNeg
        · simp only [hj, if_true, Option.map_some]
          rw [ad_in (by omega), eH, ad_in h5]
          congr 2
          omega
        · simp [hj]
      · split at hp
        · rename_i e1 e2
          cases hp
          refine ⟨by omega, by omega, ?_⟩
          show F.heap[ad E p]? = some (vp_cell _ _)
          have := hrow (p - n - 1) (by omega)
          rw [show ad E p = H.size + 1 + (p - n - 1) by rw [eH, ad_in h5, ad_in (by omega)]; omega]
          exact this
        · obtain ⟨g1, g2, g3⟩ := hc p c1 hp
          exact ⟨g1, by omega, g3.kept (hold _ (cc_at_lt g3))⟩
    · unfold hmna
      split
      · rfl
      · split
        · rfl
        · exact hf p g1 (by omega)
  have hS1 : va_S (eA E) s.heap F.heap locs := ⟨by rw [f1]; exact Nat.le_trans hS.1 (by omega), fun q g1 g2 => (hold q (Nat.lt_of_lt_of_le g1 hS.1)).trans (hS.2.1 q g1 g2), hS.2.2⟩
  obtain ⟨t, a1, b1⟩ := kk F.heap locs ls hW1 hS1 (by rw [f1]; omega) hl F rfl X'
  refine ⟨t, step t ?_, b1⟩
  have e2 : T.heap.size = H.size := by rw [hT]
  rw [e2, eH]
  exact a1
end
section
theorem tb_at {w : Cond} (i : Nat) (h : lw_tbl[i]? = some w) (g : goodWord w = true) : w ∈ tbG := List.mem_filter.mpr ⟨List.mem_of_getElem? h, g⟩
theorem in_X0 : ∀ w ∈ u_ws RX0 TX0 6, w ∈ tbG := by
  show ∀ w ∈ [u_lay RX0 TX0 0, u_lay RX0 TX0 1, u_lay RX0 TX0 2, u_lay RX0 TX0 3, u_lay RX0 TX0 4, u_lay RX0 TX0 5], w ∈ tbG
  exact List.forall_mem_cons.mpr ⟨tb_at 98 (by decide +kernel) (by decide +kernel), List.forall_mem_cons.mpr ⟨tb_at 100 (by decide +kernel) (by decide +kernel), List.forall_mem_cons.mpr ⟨tb_at 102 (by decide +kernel) (by decide +kernel), List.forall_mem_cons.mpr ⟨tb_at 104 (by decide +kernel) (by decide +kernel), List.forall_mem_cons.mpr ⟨tb_at 106 (by decide +kernel) (by decide +kernel), List.forall_mem_cons.mpr ⟨tb_at 108 (by decide +kernel) (by decide +kernel), fun _ h => absurd h List.not_mem_nil⟩⟩⟩⟩⟩⟩
theorem in_X1 : ∀ w ∈ u_ws RX1 TX1 1, w ∈ tbG := by
  show ∀ w ∈ [u_lay RX1 TX1 0], w ∈ tbG
  exact List.forall_mem_cons.mpr ⟨tb_at 238 (by decide +kernel) (by decide +kernel), fun _ h => absurd h List.not_mem_nil⟩
theorem in_X2 : ∀ w ∈ u_ws RX2 TX2 3, w ∈ tbG := by
  show ∀ w ∈ [u_lay RX2 TX2 0, u_lay RX2 TX2 1, u_lay RX2 TX2 2], w ∈ tbG
  exact List.forall_mem_cons.mpr ⟨tb_at 209 (by decide +kernel) (by decide +kernel), List.forall_mem_cons.mpr ⟨tb_at 211 (by decide +kernel) (by decide +kernel), List.forall_mem_cons.mpr ⟨tb_at 213 (by decide +kernel) (by decide +kernel), fun _ h => absurd h List.not_mem_nil⟩⟩⟩
theorem in_X3 : ∀ w ∈ u_ws RX3 TX3 5, w ∈ tbG := by
  show ∀ w ∈ [u_lay RX3 TX3 0, u_lay RX3 TX3 1, u_lay RX3 TX3 2, u_lay RX3 TX3 3, u_lay RX3 TX3 4], w ∈ tbG
  exact List.forall_mem_cons.mpr ⟨tb_at 129 (by decide +kernel) (by decide +kernel), List.forall_mem_cons.mpr ⟨tb_at 131 (by decide +kernel) (by decide +kernel), List.forall_mem_cons.mpr ⟨tb_at 133 (by decide +kernel) (by decide +kernel), List.forall_mem_cons.mpr ⟨tb_at 135 (by decide +kernel) (by decide +kernel), List.forall_mem_cons.mpr ⟨tb_at 137 (by decide +kernel) (by decide +kernel), fun _ h => absurd h List.not_mem_nil⟩⟩⟩⟩⟩
theorem in_X4 : ∀ w ∈ u_ws RX4 TX4 5, w ∈ tbG := by
  show ∀ w ∈ [u_lay RX4 TX4 0, u_lay RX4 TX4 1, u_lay RX4 TX4 2, u_lay RX4 TX4 3, u_lay RX4 TX4 4], w ∈ tbG
  exact List.forall_mem_cons.mpr ⟨tb_at 280 (by decide +kernel) (by decide +kernel), List.forall_mem_cons.mpr ⟨tb_at 282 (by decide +kernel) (by decide +kernel), List.forall_mem_cons.mpr ⟨tb_at 284 (by decide +kernel) (by decide +kernel), List.forall_mem_cons.mpr ⟨tb_at 286 (by decide +kernel) (by decide +kernel), List.forall_mem_cons.mpr ⟨tb_at 288 (by decide +kernel) (by decide +kernel), fun _ h => absurd h List.not_mem_nil⟩⟩⟩⟩⟩
theorem in_X5 : ∀ w ∈ u_ws RX5 TX5 2, w ∈ tbG := by
  show ∀ w ∈ [u_lay RX5 TX5 0, u_lay RX5 TX5 1], w ∈ tbG
  exact List.forall_mem_cons.mpr ⟨tb_at 226 (by decide +kernel) (by decide +kernel), List.forall_mem_cons.mpr ⟨tb_at 228 (by decide +kernel) (by decide +kernel), fun _ h => absurd h List.not_mem_nil⟩⟩
theorem in_X6 : ∀ w ∈ u_ws RX6 TX6 5, w ∈ tbG := by
  show ∀ w ∈ [u_lay RX6 TX6 0, u_lay RX6 TX6 1, u_lay RX6 TX6 2, u_lay RX6 TX6 3, u_lay RX6 TX6 4], w ∈ tbG
  exact List.forall_mem_cons.mpr ⟨tb_at 256 (by decide +kernel) (by decide +kernel), List.forall_mem_cons.mpr ⟨tb_at 258 (by decide +kernel) (by decide +kernel), List.forall_mem_cons.mpr ⟨tb_at 260 (by decide +kernel) (by decide +kernel), List.forall_mem_cons.mpr ⟨tb_at 262 (by decide +kernel) (by decide +kernel), List.forall_mem_cons.mpr ⟨tb_at 264 (by decide +kernel) (by decide +kernel), fun _ h => absurd h List.not_mem_nil⟩⟩⟩⟩⟩
theorem in_X7 : ∀ w ∈ u_ws RX7 TX7 5, w ∈ tbG := by
  show ∀ w ∈ [u_lay RX7 TX7 0, u_lay RX7 TX7 1, u_lay RX7 TX7 2, u_lay RX7 TX7 3, u_lay RX7 TX7 4], w ∈ tbG
  exact List.forall_mem_cons.mpr ⟨tb_at 153 (by decide +kernel) (by decide +kernel), List.forall_mem_cons.mpr ⟨tb_at 155 (by decide +kernel) (by decide +kernel), List.forall_mem_cons.mpr ⟨tb_at 157 (by decide +kernel) (by decide +kernel), List.forall_mem_cons.mpr ⟨tb_at 159 (by decide +kernel) (by decide +kernel), List.forall_mem_cons.mpr ⟨tb_at 161 (by decide +kernel) (by decide +kernel), fun _ h => absurd h List.not_mem_nil⟩⟩⟩⟩⟩
theorem in_X8 : ∀ w ∈ u_ws RX8 TX8 4, w ∈ tbG := by
  show ∀ w ∈ [u_lay RX8 TX8 0, u_lay RX8 TX8 1, u_lay RX8 TX8 2, u_lay RX8 TX8 3], w ∈ tbG
  exact List.forall_mem_cons.mpr ⟨tb_at 187 (by decide +kernel) (by decide +kernel), List.forall_mem_cons.mpr ⟨tb_at 189 (by decide +kernel) (by decide +kernel), List.forall_mem_cons.mpr ⟨tb_at 191 (by decide +kernel) (by decide +kernel), List.forall_mem_cons.mpr ⟨tb_at 193 (by decide +kernel) (by decide +kernel), fun _ h => absurd h List.not_mem_nil⟩⟩⟩⟩
theorem in_X9 : ∀ w ∈ u_ws RX9 TX9 9, w ∈ tbG := by
  show ∀ w ∈ [u_lay RX9 TX9 0, u_lay RX9 TX9 1, u_lay RX9 TX9 2, u_lay RX9 TX9 3, u_lay RX9 TX9 4, u_lay RX9 TX9 5, u_lay RX9 TX9 6, u_lay RX9 TX9 7, u_lay RX9 TX9 8], w ∈ tbG
  exact List.forall_mem_cons.mpr ⟨tb_at 300 (by decide +kernel) (by decide +kernel), List.forall_mem_cons.mpr ⟨tb_at 302 (by decide +kernel) (by decide +kernel), List.forall_mem_cons.mpr ⟨tb_at 304 (by decide +kernel) (by decide +kernel), List.forall_mem_cons.mpr ⟨tb_at 306 (by decide +kernel) (by decide +kernel), List.forall_mem_cons.mpr ⟨tb_at 308 (by decide +kernel) (by decide +kernel), List.forall_mem_cons.mpr ⟨tb_at 310 (by decide +kernel) (by decide +kernel), List.forall_mem_cons.mpr ⟨tb_at 312 (by decide +kernel) (by decide +kernel), List.forall_mem_cons.mpr ⟨tb_at 314 (by decide +kernel) (by decide +kernel), List.forall_mem_cons.mpr ⟨tb_at 316 (by decide +kernel) (by decide +kernel), fun _ h => absurd h List.not_mem_nil⟩⟩⟩⟩⟩⟩⟩⟩⟩
theorem in_X10 : ∀ w ∈ u_ws RX10 TX10 16, w ∈ tbG := by
  show ∀ w ∈ [u_lay RX10 TX10 0, u_lay RX10 TX10 1, u_lay RX10 TX10 2, u_lay RX10 TX10 3, u_lay RX10 TX10 4, u_lay RX10 TX10 5, u_lay RX10 TX10 6, u_lay RX10 TX10 7, u_lay RX10 TX10 8, u_lay RX10 TX10 9, u_lay RX10 TX10 10, u_lay RX10 TX10 11, u_lay RX10 TX10 12, u_lay RX10 TX10 13, u_lay RX10 TX10 14, u_lay RX10 TX10 15], w ∈ tbG
  exact List.forall_mem_cons.mpr ⟨tb_at 798 (by decide +kernel) (by decide +kernel), List.forall_mem_cons.mpr ⟨tb_at 800 (by decide +kernel) (by decide +kernel), List.forall_mem_cons.mpr ⟨tb_at 802 (by decide +kernel) (by decide +kernel), List.forall_mem_cons.mpr ⟨tb_at 804 (by decide +kernel) (by decide +kernel), List.forall_mem_cons.mpr ⟨tb_at 806 (by decide +kernel) (by decide +kernel), List.forall_mem_cons.mpr ⟨tb_at 808 (by decide +kernel) (by decide +kernel), List.forall_mem_cons.mpr ⟨tb_at 810 (by decide +kernel) (by decide +kernel), List.forall_mem_cons.mpr ⟨tb_at 812 (by decide +kernel) (by decide +kernel), List.forall_mem_cons.mpr ⟨tb_at 814 (by decide +kernel) (by decide +kernel), List.forall_mem_cons.mpr ⟨tb_at 816 (by decide +kernel) (by decide +kernel), List.forall_mem_cons.mpr ⟨tb_at 818 (by decide +kernel) (by decide +kernel), List.forall_mem_cons.mpr ⟨tb_at 820 (by decide +kernel) (by decide +kernel), List.forall_mem_cons.mpr ⟨tb_at 822 (by decide +kernel) (by decide +kernel), List.forall_mem_cons.mpr ⟨tb_at 824 (by decide +kernel) (by decide +kernel), List.forall_mem_cons.mpr ⟨tb_at 826 (by decide +kernel) (by decide +kernel), List.forall_mem_cons.mpr ⟨tb_at 828 (by decide +kernel) (by decide +kernel), fun _ h => absurd h List.not_mem_nil⟩⟩⟩⟩⟩⟩⟩⟩⟩⟩⟩⟩⟩⟩⟩⟩
theorem kf_X0_9 : Cond.fieldLink RX0 9 (TX0 0).1 (TX0 0).2.1 (TX0 0).2.2.1 ∈ tbG := tb_at 84 (by decide +kernel) (by decide +kernel)
theorem gt_X0_9 {X : CX} {bytes : ByteArray} {ret : Option FieldType} {fr lo mc ms n1 : Nat} {post : Option Value → HP → Prop} {n k sl pc : Nat} {h : HP} {L : List (Option Value)} {st : List Value} (hX : Cx X RX0 bytes ret fr lo mc ms n1 post) {a : Nat} {fs : List Value} {v : Value} (hdg : decode bytes pc = .ok (.getfield 9, 3)) (hh : h a = some (cO 0 fs)) (hv : fs[0]? = some v) (kk : AW X n h k sl (pc + 3) L (v :: st)) : AW X n h k sl pc L (.ref a :: st) := aw_get hX 0 rfl (C := RX0) (T := TX0) (N := 6) rfl in_X0 kf_X0_9 (by decide) hh hv hdg kk
theorem pt_X0_9 {X : CX} {bytes : ByteArray} {ret : Option FieldType} {fr lo mc ms n1 : Nat} {post : Option Value → HP → Prop} {n k sl pc : Nat} {h : HP} {L : List (Option Value)} {st : List Value} (hX : Cx X RX0 bytes ret fr lo mc ms n1 post) {a : Nat} {fs : List Value} {v : Int32} (hdg : decode bytes pc = .ok (.putfield 9, 3)) (hh : h a = some (cO 0 fs)) (hlen : 0 < fs.length) (kk : AW X n (hset h a (cO 0 (fs.set 0 (.int v)))) k sl (pc + 3) L st) : AW X n h k sl pc L (.int v :: .ref a :: st) := aw_put hX 0 rfl (C := RX0) (T := TX0) (N := 6) (ty := .int) rfl in_X0 tyX0 tyX0_ok nmX0 kf_X0_9 (by decide) rfl (by decide +kernel) rfl rfl hh hlen hdg kk
theorem kf_X5_24 : Cond.fieldLink RX5 24 (TX0 0).1 (TX0 0).2.1 (TX0 0).2.2.1 ∈ tbG := tb_at 85 (by decide +kernel) (by decide +kernel)
theorem gt_X5_24 {X : CX} {bytes : ByteArray} {ret : Option FieldType} {fr lo mc ms n1 : Nat} {post : Option Value → HP → Prop} {n k sl pc : Nat} {h : HP} {L : List (Option Value)} {st : List Value} (hX : Cx X RX5 bytes ret fr lo mc ms n1 post) {a : Nat} {fs : List Value} {v : Value} (hdg : decode bytes pc = .ok (.getfield 24, 3)) (hh : h a = some (cO 0 fs)) (hv : fs[0]? = some v) (kk : AW X n h k sl (pc + 3) L (v :: st)) : AW X n h k sl pc L (.ref a :: st) := aw_get hX 0 rfl (C := RX0) (T := TX0) (N := 6) rfl in_X0 kf_X5_24 (by decide) hh hv hdg kk
theorem pt_X5_24 {X : CX} {bytes : ByteArray} {ret : Option FieldType} {fr lo mc ms n1 : Nat} {post : Option Value → HP → Prop} {n k sl pc : Nat} {h : HP} {L : List (Option Value)} {st : List Value} (hX : Cx X RX5 bytes ret fr lo mc ms n1 post) {a : Nat} {fs : List Value} {v : Int32} (hdg : decode bytes pc = .ok (.putfield 24, 3)) (hh : h a = some (cO 0 fs)) (hlen : 0 < fs.length) (kk : AW X n (hset h a (cO 0 (fs.set 0 (.int v)))) k sl (pc + 3) L st) : AW X n h k sl pc L (.int v :: .ref a :: st) := aw_put hX 0 rfl (C := RX0) (T := TX0) (N := 6) (ty := .int) rfl in_X0 tyX0 tyX0_ok nmX0 kf_X5_24 (by decide) rfl (by decide +kernel) rfl rfl hh hlen hdg kk
theorem kf_X9_70 : Cond.fieldLink RX9 70 (TX0 0).1 (TX0 0).2.1 (TX0 0).2.2.1 ∈ tbG := tb_at 86 (by decide +kernel) (by decide +kernel)
theorem gt_X9_70 {X : CX} {bytes : ByteArray} {ret : Option FieldType} {fr lo mc ms n1 : Nat} {post : Option Value → HP → Prop} {n k sl pc : Nat} {h : HP} {L : List (Option Value)} {st : List Value} (hX : Cx X RX9 bytes ret fr lo mc ms n1 post) {a : Nat} {fs : List Value} {v : Value} (hdg : decode bytes pc = .ok (.getfield 70, 3)) (hh : h a = some (cO 0 fs)) (hv : fs[0]? = some v) (kk : AW X n h k sl (pc + 3) L (v :: st)) : AW X n h k sl pc L (.ref a :: st) := aw_get hX 0 rfl (C := RX0) (T := TX0) (N := 6) rfl in_X0 kf_X9_70 (by decide) hh hv hdg kk
theorem pt_X9_70 {X : CX} {bytes : ByteArray} {ret : Option FieldType} {fr lo mc ms n1 : Nat} {post : Option Value → HP → Prop} {n k sl pc : Nat} {h : HP} {L : List (Option Value)} {st : List Value} (hX : Cx X RX9 bytes ret fr lo mc ms n1 post) {a : Nat} {fs : List Value} {v : Int32} (hdg : decode bytes pc = .ok (.putfield 70, 3)) (hh : h a = some (cO 0 fs)) (hlen : 0 < fs.length) (kk : AW X n (hset h a (cO 0 (fs.set 0 (.int v)))) k sl (pc + 3) L st) : AW X n h k sl pc L (.int v :: .ref a :: st) := aw_put hX 0 rfl (C := RX0) (T := TX0) (N := 6) (ty := .int) rfl in_X0 tyX0 tyX0_ok nmX0 kf_X9_70 (by decide) rfl (by decide +kernel) rfl rfl hh hlen hdg kk
theorem kf_X0_15 : Cond.fieldLink RX0 15 (TX0 1).1 (TX0 1).2.1 (TX0 1).2.2.1 ∈ tbG := tb_at 87 (by decide +kernel) (by decide +kernel)
theorem gt_X0_15 {X : CX} {bytes : ByteArray} {ret : Option FieldType} {fr lo mc ms n1 : Nat} {post : Option Value → HP → Prop} {n k sl pc : Nat} {h : HP} {L : List (Option Value)} {st : List Value} (hX : Cx X RX0 bytes ret fr lo mc ms n1 post) {a : Nat} {fs : List Value} {v : Value} (hdg : decode bytes pc = .ok (.getfield 15, 3)) (hh : h a = some (cO 0 fs)) (hv : fs[1]? = some v) (kk : AW X n h k sl (pc + 3) L (v :: st)) : AW X n h k sl pc L (.ref a :: st) := aw_get hX 1 rfl (C := RX0) (T := TX0) (N := 6) rfl in_X0 kf_X0_15 (by decide) hh hv hdg kk
theorem pf_X0_15 {X : CX} {bytes : ByteArray} {ret : Option FieldType} {fr lo mc ms n1 : Nat} {post : Option Value → HP → Prop} {n k sl pc : Nat} {h : HP} {L : List (Option Value)} {st : List Value} (hX : Cx X RX0 bytes ret fr lo mc ms n1 post) (hini : X.2.2.2.2.2.2.2.2.1.name = "<init>") {a b : Nat} {fs : List Value} (hdg : decode bytes pc = .ok (.putfield 15, 3)) (hh : h a = some (cO 0 fs)) (hlen : 1 < fs.length) (kk : AW X n (hset h a (cO 0 (fs.set 1 (.ref b)))) k sl (pc + 3) L st) : AW X n h k sl pc L (.ref b :: .ref a :: st) := aw_putF hX 1 rfl (C := RX0) (T := TX0) (N := 6) (ty := .array .int) (v := .ref b) rfl in_X0 tyX0 tyX0_ok nmX0 kf_X0_15 (by decide) rfl hini rfl (by decide +kernel) rfl rfl hh hlen hdg kk
theorem kf_X5_62 : Cond.fieldLink RX5 62 (TX0 1).1 (TX0 1).2.1 (TX0 1).2.2.1 ∈ tbG := tb_at 88 (by decide +kernel) (by decide +kernel)
theorem gt_X5_62 {X : CX} {bytes : ByteArray} {ret : Option FieldType} {fr lo mc ms n1 : Nat} {post : Option Value → HP → Prop} {n k sl pc : Nat} {h : HP} {L : List (Option Value)} {st : List Value} (hX : Cx X RX5 bytes ret fr lo mc ms n1 post) {a : Nat} {fs : List Value} {v : Value} (hdg : decode bytes pc = .ok (.getfield 62, 3)) (hh : h a = some (cO 0 fs)) (hv : fs[1]? = some v) (kk : AW X n h k sl (pc + 3) L (v :: st)) : AW X n h k sl pc L (.ref a :: st) := aw_get hX 1 rfl (C := RX0) (T := TX0) (N := 6) rfl in_X0 kf_X5_62 (by decide) hh hv hdg kk
theorem kf_X4_59 : Cond.fieldLink RX4 59 (TX0 1).1 (TX0 1).2.1 (TX0 1).2.2.1 ∈ tbG := tb_at 89 (by decide +kernel) (by decide +kernel)
theorem gt_X4_59 {X : CX} {bytes : ByteArray} {ret : Option FieldType} {fr lo mc ms n1 : Nat} {post : Option Value → HP → Prop} {n k sl pc : Nat} {h : HP} {L : List (Option Value)} {st : List Value} (hX : Cx X RX4 bytes ret fr lo mc ms n1 post) {a : Nat} {fs : List Value} {v : Value} (hdg : decode bytes pc = .ok (.getfield 59, 3)) (hh : h a = some (cO 0 fs)) (hv : fs[1]? = some v) (kk : AW X n h k sl (pc + 3) L (v :: st)) : AW X n h k sl pc L (.ref a :: st) := aw_get hX 1 rfl (C := RX0) (T := TX0) (N := 6) rfl in_X0 kf_X4_59 (by decide) hh hv hdg kk
theorem kf_X9_212 : Cond.fieldLink RX9 212 (TX0 1).1 (TX0 1).2.1 (TX0 1).2.2.1 ∈ tbG := tb_at 90 (by decide +kernel) (by decide +kernel)
theorem gt_X9_212 {X : CX} {bytes : ByteArray} {ret : Option FieldType} {fr lo mc ms n1 : Nat} {post : Option Value → HP → Prop} {n k sl pc : Nat} {h : HP} {L : List (Option Value)} {st : List Value} (hX : Cx X RX9 bytes ret fr lo mc ms n1 post) {a : Nat} {fs : List Value} {v : Value} (hdg : decode bytes pc = .ok (.getfield 212, 3)) (hh : h a = some (cO 0 fs)) (hv : fs[1]? = some v) (kk : AW X n h k sl (pc + 3) L (v :: st)) : AW X n h k sl pc L (.ref a :: st) := aw_get hX 1 rfl (C := RX0) (T := TX0) (N := 6) rfl in_X0 kf_X9_212 (by decide) hh hv hdg kk
theorem kf_X0_19 : Cond.fieldLink RX0 19 (TX0 2).1 (TX0 2).2.1 (TX0 2).2.2.1 ∈ tbG := tb_at 91 (by decide +kernel) (by decide +kernel)
theorem gt_X0_19 {X : CX} {bytes : ByteArray} {ret : Option FieldType} {fr lo mc ms n1 : Nat} {post : Option Value → HP → Prop} {n k sl pc : Nat} {h : HP} {L : List (Option Value)} {st : List Value} (hX : Cx X RX0 bytes ret fr lo mc ms n1 post) {a : Nat} {fs : List Value} {v : Value} (hdg : decode bytes pc = .ok (.getfield 19, 3)) (hh : h a = some (cO 0 fs)) (hv : fs[2]? = some v) (kk : AW X n h k sl (pc + 3) L (v :: st)) : AW X n h k sl pc L (.ref a :: st) := aw_get hX 2 rfl (C := RX0) (T := TX0) (N := 6) rfl in_X0 kf_X0_19 (by decide) hh hv hdg kk
theorem pf_X0_19 {X : CX} {bytes : ByteArray} {ret : Option FieldType} {fr lo mc ms n1 : Nat} {post : Option Value → HP → Prop} {n k sl pc : Nat} {h : HP} {L : List (Option Value)} {st : List Value} (hX : Cx X RX0 bytes ret fr lo mc ms n1 post) (hini : X.2.2.2.2.2.2.2.2.1.name = "<init>") {a b : Nat} {fs : List Value} (hdg : decode bytes pc = .ok (.putfield 19, 3)) (hh : h a = some (cO 0 fs)) (hlen : 2 < fs.length) (kk : AW X n (hset h a (cO 0 (fs.set 2 (.ref b)))) k sl (pc + 3) L st) : AW X n h k sl pc L (.ref b :: .ref a :: st) := aw_putF hX 2 rfl (C := RX0) (T := TX0) (N := 6) (ty := .array .int) (v := .ref b) rfl in_X0 tyX0 tyX0_ok nmX0 kf_X0_19 (by decide) rfl hini rfl (by decide +kernel) rfl rfl hh hlen hdg kk
theorem kf_X9_215 : Cond.fieldLink RX9 215 (TX0 2).1 (TX0 2).2.1 (TX0 2).2.2.1 ∈ tbG := tb_at 92 (by decide +kernel) (by decide +kernel)
theorem gt_X9_215 {X : CX} {bytes : ByteArray} {ret : Option FieldType} {fr lo mc ms n1 : Nat} {post : Option Value → HP → Prop} {n k sl pc : Nat} {h : HP} {L : List (Option Value)} {st : List Value} (hX : Cx X RX9 bytes ret fr lo mc ms n1 post) {a : Nat} {fs : List Value} {v : Value} (hdg : decode bytes pc = .ok (.getfield 215, 3)) (hh : h a = some (cO 0 fs)) (hv : fs[2]? = some v) (kk : AW X n h k sl (pc + 3) L (v :: st)) : AW X n h k sl pc L (.ref a :: st) := aw_get hX 2 rfl (C := RX0) (T := TX0) (N := 6) rfl in_X0 kf_X9_215 (by decide) hh hv hdg kk
theorem kf_X0_22 : Cond.fieldLink RX0 22 (TX0 3).1 (TX0 3).2.1 (TX0 3).2.2.1 ∈ tbG := tb_at 93 (by decide +kernel) (by decide +kernel)
theorem gt_X0_22 {X : CX} {bytes : ByteArray} {ret : Option FieldType} {fr lo mc ms n1 : Nat} {post : Option Value → HP → Prop} {n k sl pc : Nat} {h : HP} {L : List (Option Value)} {st : List Value} (hX : Cx X RX0 bytes ret fr lo mc ms n1 post) {a : Nat} {fs : List Value} {v : Value} (hdg : decode bytes pc = .ok (.getfield 22, 3)) (hh : h a = some (cO 0 fs)) (hv : fs[3]? = some v) (kk : AW X n h k sl (pc + 3) L (v :: st)) : AW X n h k sl pc L (.ref a :: st) := aw_get hX 3 rfl (C := RX0) (T := TX0) (N := 6) rfl in_X0 kf_X0_22 (by decide) hh hv hdg kk
theorem pf_X0_22 {X : CX} {bytes : ByteArray} {ret : Option FieldType} {fr lo mc ms n1 : Nat} {post : Option Value → HP → Prop} {n k sl pc : Nat} {h : HP} {L : List (Option Value)} {st : List Value} (hX : Cx X RX0 bytes ret fr lo mc ms n1 post) (hini : X.2.2.2.2.2.2.2.2.1.name = "<init>") {a b : Nat} {fs : List Value} (hdg : decode bytes pc = .ok (.putfield 22, 3)) (hh : h a = some (cO 0 fs)) (hlen : 3 < fs.length) (kk : AW X n (hset h a (cO 0 (fs.set 3 (.ref b)))) k sl (pc + 3) L st) : AW X n h k sl pc L (.ref b :: .ref a :: st) := aw_putF hX 3 rfl (C := RX0) (T := TX0) (N := 6) (ty := .array .int) (v := .ref b) rfl in_X0 tyX0 tyX0_ok nmX0 kf_X0_22 (by decide) rfl hini rfl (by decide +kernel) rfl rfl hh hlen hdg kk
theorem kf_X9_218 : Cond.fieldLink RX9 218 (TX0 3).1 (TX0 3).2.1 (TX0 3).2.2.1 ∈ tbG := tb_at 94 (by decide +kernel) (by decide +kernel)
theorem gt_X9_218 {X : CX} {bytes : ByteArray} {ret : Option FieldType} {fr lo mc ms n1 : Nat} {post : Option Value → HP → Prop} {n k sl pc : Nat} {h : HP} {L : List (Option Value)} {st : List Value} (hX : Cx X RX9 bytes ret fr lo mc ms n1 post) {a : Nat} {fs : List Value} {v : Value} (hdg : decode bytes pc = .ok (.getfield 218, 3)) (hh : h a = some (cO 0 fs)) (hv : fs[3]? = some v) (kk : AW X n h k sl (pc + 3) L (v :: st)) : AW X n h k sl pc L (.ref a :: st) := aw_get hX 3 rfl (C := RX0) (T := TX0) (N := 6) rfl in_X0 kf_X9_218 (by decide) hh hv hdg kk
theorem kf_X0_25 : Cond.fieldLink RX0 25 (TX0 4).1 (TX0 4).2.1 (TX0 4).2.2.1 ∈ tbG := tb_at 95 (by decide +kernel) (by decide +kernel)
theorem gt_X0_25 {X : CX} {bytes : ByteArray} {ret : Option FieldType} {fr lo mc ms n1 : Nat} {post : Option Value → HP → Prop} {n k sl pc : Nat} {h : HP} {L : List (Option Value)} {st : List Value} (hX : Cx X RX0 bytes ret fr lo mc ms n1 post) {a : Nat} {fs : List Value} {v : Value} (hdg : decode bytes pc = .ok (.getfield 25, 3)) (hh : h a = some (cO 0 fs)) (hv : fs[4]? = some v) (kk : AW X n h k sl (pc + 3) L (v :: st)) : AW X n h k sl pc L (.ref a :: st) := aw_get hX 4 rfl (C := RX0) (T := TX0) (N := 6) rfl in_X0 kf_X0_25 (by decide) hh hv hdg kk
theorem pf_X0_25 {X : CX} {bytes : ByteArray} {ret : Option FieldType} {fr lo mc ms n1 : Nat} {post : Option Value → HP → Prop} {n k sl pc : Nat} {h : HP} {L : List (Option Value)} {st : List Value} (hX : Cx X RX0 bytes ret fr lo mc ms n1 post) (hini : X.2.2.2.2.2.2.2.2.1.name = "<init>") {a b : Nat} {fs : List Value} (hdg : decode bytes pc = .ok (.putfield 25, 3)) (hh : h a = some (cO 0 fs)) (hlen : 4 < fs.length) (kk : AW X n (hset h a (cO 0 (fs.set 4 (.ref b)))) k sl (pc + 3) L st) : AW X n h k sl pc L (.ref b :: .ref a :: st) := aw_putF hX 4 rfl (C := RX0) (T := TX0) (N := 6) (ty := .array .int) (v := .ref b) rfl in_X0 tyX0 tyX0_ok nmX0 kf_X0_25 (by decide) rfl hini rfl (by decide +kernel) rfl rfl hh hlen hdg kk
theorem kf_X9_221 : Cond.fieldLink RX9 221 (TX0 4).1 (TX0 4).2.1 (TX0 4).2.2.1 ∈ tbG := tb_at 96 (by decide +kernel) (by decide +kernel)
theorem gt_X9_221 {X : CX} {bytes : ByteArray} {ret : Option FieldType} {fr lo mc ms n1 : Nat} {post : Option Value → HP → Prop} {n k sl pc : Nat} {h : HP} {L : List (Option Value)} {st : List Value} (hX : Cx X RX9 bytes ret fr lo mc ms n1 post) {a : Nat} {fs : List Value} {v : Value} (hdg : decode bytes pc = .ok (.getfield 221, 3)) (hh : h a = some (cO 0 fs)) (hv : fs[4]? = some v) (kk : AW X n h k sl (pc + 3) L (v :: st)) : AW X n h k sl pc L (.ref a :: st) := aw_get hX 4 rfl (C := RX0) (T := TX0) (N := 6) rfl in_X0 kf_X9_221 (by decide) hh hv hdg kk
theorem kf_X0_28 : Cond.fieldLink RX0 28 (TX0 5).1 (TX0 5).2.1 (TX0 5).2.2.1 ∈ tbG := tb_at 97 (by decide +kernel) (by decide +kernel)
theorem gt_X0_28 {X : CX} {bytes : ByteArray} {ret : Option FieldType} {fr lo mc ms n1 : Nat} {post : Option Value → HP → Prop} {n k sl pc : Nat} {h : HP} {L : List (Option Value)} {st : List Value} (hX : Cx X RX0 bytes ret fr lo mc ms n1 post) {a : Nat} {fs : List Value} {v : Value} (hdg : decode bytes pc = .ok (.getfield 28, 3)) (hh : h a = some (cO 0 fs)) (hv : fs[5]? = some v) (kk : AW X n h k sl (pc + 3) L (v :: st)) : AW X n h k sl pc L (.ref a :: st) := aw_get hX 5 rfl (C := RX0) (T := TX0) (N := 6) rfl in_X0 kf_X0_28 (by decide) hh hv hdg kk
theorem pf_X0_28 {X : CX} {bytes : ByteArray} {ret : Option FieldType} {fr lo mc ms n1 : Nat} {post : Option Value → HP → Prop} {n k sl pc : Nat} {h : HP} {L : List (Option Value)} {st : List Value} (hX : Cx X RX0 bytes ret fr lo mc ms n1 post) (hini : X.2.2.2.2.2.2.2.2.1.name = "<init>") {a b : Nat} {fs : List Value} (hdg : decode bytes pc = .ok (.putfield 28, 3)) (hh : h a = some (cO 0 fs)) (hlen : 5 < fs.length) (kk : AW X n (hset h a (cO 0 (fs.set 5 (.ref b)))) k sl (pc + 3) L st) : AW X n h k sl pc L (.ref b :: .ref a :: st) := aw_putF hX 5 rfl (C := RX0) (T := TX0) (N := 6) (ty := .array .int) (v := .ref b) rfl in_X0 tyX0 tyX0_ok nmX0 kf_X0_28 (by decide) rfl hini rfl (by decide +kernel) rfl rfl hh hlen hdg kk
theorem kf_X3_9 : Cond.fieldLink RX3 9 (TX3 0).1 (TX3 0).2.1 (TX3 0).2.2.1 ∈ tbG := tb_at 118 (by decide +kernel) (by decide +kernel)
theorem gt_X3_9 {X : CX} {bytes : ByteArray} {ret : Option FieldType} {fr lo mc ms n1 : Nat} {post : Option Value → HP → Prop} {n k sl pc : Nat} {h : HP} {L : List (Option Value)} {st : List Value} (hX : Cx X RX3 bytes ret fr lo mc ms n1 post) {a : Nat} {fs : List Value} {v : Value} (hdg : decode bytes pc = .ok (.getfield 9, 3)) (hh : h a = some (cO 3 fs)) (hv : fs[0]? = some v) (kk : AW X n h k sl (pc + 3) L (v :: st)) : AW X n h k sl pc L (.ref a :: st) := aw_get hX 0 rfl (C := RX3) (T := TX3) (N := 5) rfl in_X3 kf_X3_9 (by decide) hh hv hdg kk
theorem pt_X3_9 {X : CX} {bytes : ByteArray} {ret : Option FieldType} {fr lo mc ms n1 : Nat} {post : Option Value → HP → Prop} {n k sl pc : Nat} {h : HP} {L : List (Option Value)} {st : List Value} (hX : Cx X RX3 bytes ret fr lo mc ms n1 post) {a : Nat} {fs : List Value} {v : Int32} (hdg : decode bytes pc = .ok (.putfield 9, 3)) (hh : h a = some (cO 3 fs)) (hlen : 0 < fs.length) (kk : AW X n (hset h a (cO 3 (fs.set 0 (.int v)))) k sl (pc + 3) L st) : AW X n h k sl pc L (.int v :: .ref a :: st) := aw_put hX 0 rfl (C := RX3) (T := TX3) (N := 5) (ty := .int) rfl in_X3 tyX3 tyX3_ok nmX3 kf_X3_9 (by decide) rfl (by decide +kernel) rfl rfl hh hlen hdg kk
theorem kf_X8_73 : Cond.fieldLink RX8 73 (TX3 0).1 (TX3 0).2.1 (TX3 0).2.2.1 ∈ tbG := tb_at 119 (by decide +kernel) (by decide +kernel)
theorem gt_X8_73 {X : CX} {bytes : ByteArray} {ret : Option FieldType} {fr lo mc ms n1 : Nat} {post : Option Value → HP → Prop} {n k sl pc : Nat} {h : HP} {L : List (Option Value)} {st : List Value} (hX : Cx X RX8 bytes ret fr lo mc ms n1 post) {a : Nat} {fs : List Value} {v : Value} (hdg : decode bytes pc = .ok (.getfield 73, 3)) (hh : h a = some (cO 3 fs)) (hv : fs[0]? = some v) (kk : AW X n h k sl (pc + 3) L (v :: st)) : AW X n h k sl pc L (.ref a :: st) := aw_get hX 0 rfl (C := RX3) (T := TX3) (N := 5) rfl in_X3 kf_X8_73 (by decide) hh hv hdg kk
theorem pt_X8_73 {X : CX} {bytes : ByteArray} {ret : Option FieldType} {fr lo mc ms n1 : Nat} {post : Option Value → HP → Prop} {n k sl pc : Nat} {h : HP} {L : List (Option Value)} {st : List Value} (hX : Cx X RX8 bytes ret fr lo mc ms n1 post) {a : Nat} {fs : List Value} {v : Int32} (hdg : decode bytes pc = .ok (.putfield 73, 3)) (hh : h a = some (cO 3 fs)) (hlen : 0 < fs.length) (kk : AW X n (hset h a (cO 3 (fs.set 0 (.int v)))) k sl (pc + 3) L st) : AW X n h k sl pc L (.int v :: .ref a :: st) := aw_put hX 0 rfl (C := RX3) (T := TX3) (N := 5) (ty := .int) rfl in_X3 tyX3 tyX3_ok nmX3 kf_X8_73 (by decide) rfl (by decide +kernel) rfl rfl hh hlen hdg kk
theorem kf_X9_194 : Cond.fieldLink RX9 194 (TX3 0).1 (TX3 0).2.1 (TX3 0).2.2.1 ∈ tbG := tb_at 120 (by decide +kernel) (by decide +kernel)
theorem gt_X9_194 {X : CX} {bytes : ByteArray} {ret : Option FieldType} {fr lo mc ms n1 : Nat} {post : Option Value → HP → Prop} {n k sl pc : Nat} {h : HP} {L : List (Option Value)} {st : List Value} (hX : Cx X RX9 bytes ret fr lo mc ms n1 post) {a : Nat} {fs : List Value} {v : Value} (hdg : decode bytes pc = .ok (.getfield 194, 3)) (hh : h a = some (cO 3 fs)) (hv : fs[0]? = some v) (kk : AW X n h k sl (pc + 3) L (v :: st)) : AW X n h k sl pc L (.ref a :: st) := aw_get hX 0 rfl (C := RX3) (T := TX3) (N := 5) rfl in_X3 kf_X9_194 (by decide) hh hv hdg kk
theorem pt_X9_194 {X : CX} {bytes : ByteArray} {ret : Option FieldType} {fr lo mc ms n1 : Nat} {post : Option Value → HP → Prop} {n k sl pc : Nat} {h : HP} {L : List (Option Value)} {st : List Value} (hX : Cx X RX9 bytes ret fr lo mc ms n1 post) {a : Nat} {fs : List Value} {v : Int32} (hdg : decode bytes pc = .ok (.putfield 194, 3)) (hh : h a = some (cO 3 fs)) (hlen : 0 < fs.length) (kk : AW X n (hset h a (cO 3 (fs.set 0 (.int v)))) k sl (pc + 3) L st) : AW X n h k sl pc L (.int v :: .ref a :: st) := aw_put hX 0 rfl (C := RX3) (T := TX3) (N := 5) (ty := .int) rfl in_X3 tyX3 tyX3_ok nmX3 kf_X9_194 (by decide) rfl (by decide +kernel) rfl rfl hh hlen hdg kk
theorem kf_X3_15 : Cond.fieldLink RX3 15 (TX3 1).1 (TX3 1).2.1 (TX3 1).2.2.1 ∈ tbG := tb_at 121 (by decide +kernel) (by decide +kernel)
theorem gt_X3_15 {X : CX} {bytes : ByteArray} {ret : Option FieldType} {fr lo mc ms n1 : Nat} {post : Option Value → HP → Prop} {n k sl pc : Nat} {h : HP} {L : List (Option Value)} {st : List Value} (hX : Cx X RX3 bytes ret fr lo mc ms n1 post) {a : Nat} {fs : List Value} {v : Value} (hdg : decode bytes pc = .ok (.getfield 15, 3)) (hh : h a = some (cO 3 fs)) (hv : fs[1]? = some v) (kk : AW X n h k sl (pc + 3) L (v :: st)) : AW X n h k sl pc L (.ref a :: st) := aw_get hX 1 rfl (C := RX3) (T := TX3) (N := 5) rfl in_X3 kf_X3_15 (by decide) hh hv hdg kk
theorem pt_X3_15 {X : CX} {bytes : ByteArray} {ret : Option FieldType} {fr lo mc ms n1 : Nat} {post : Option Value → HP → Prop} {n k sl pc : Nat} {h : HP} {L : List (Option Value)} {st : List Value} (hX : Cx X RX3 bytes ret fr lo mc ms n1 post) {a : Nat} {fs : List Value} {v : Int32} (hdg : decode bytes pc = .ok (.putfield 15, 3)) (hh : h a = some (cO 3 fs)) (hlen : 1 < fs.length) (kk : AW X n (hset h a (cO 3 (fs.set 1 (.int v)))) k sl (pc + 3) L st) : AW X n h k sl pc L (.int v :: .ref a :: st) := aw_put hX 1 rfl (C := RX3) (T := TX3) (N := 5) (ty := .int) rfl in_X3 tyX3 tyX3_ok nmX3 kf_X3_15 (by decide) rfl (by decide +kernel) rfl rfl hh hlen hdg kk
theorem kf_X8_66 : Cond.fieldLink RX8 66 (TX3 1).1 (TX3 1).2.1 (TX3 1).2.2.1 ∈ tbG := tb_at 122 (by decide +kernel) (by decide +kernel)
theorem gt_X8_66 {X : CX} {bytes : ByteArray} {ret : Option FieldType} {fr lo mc ms n1 : Nat} {post : Option Value → HP → Prop} {n k sl pc : Nat} {h : HP} {L : List (Option Value)} {st : List Value} (hX : Cx X RX8 bytes ret fr lo mc ms n1 post) {a : Nat} {fs : List Value} {v : Value} (hdg : decode bytes pc = .ok (.getfield 66, 3)) (hh : h a = some (cO 3 fs)) (hv : fs[1]? = some v) (kk : AW X n h k sl (pc + 3) L (v :: st)) : AW X n h k sl pc L (.ref a :: st) := aw_get hX 1 rfl (C := RX3) (T := TX3) (N := 5) rfl in_X3 kf_X8_66 (by decide) hh hv hdg kk
theorem pt_X8_66 {X : CX} {bytes : ByteArray} {ret : Option FieldType} {fr lo mc ms n1 : Nat} {post : Option Value → HP → Prop} {n k sl pc : Nat} {h : HP} {L : List (Option Value)} {st : List Value} (hX : Cx X RX8 bytes ret fr lo mc ms n1 post) {a : Nat} {fs : List Value} {v : Int32} (hdg : decode bytes pc = .ok (.putfield 66, 3)) (hh : h a = some (cO 3 fs)) (hlen : 1 < fs.length) (kk : AW X n (hset h a (cO 3 (fs.set 1 (.int v)))) k sl (pc + 3) L st) : AW X n h k sl pc L (.int v :: .ref a :: st) := aw_put hX 1 rfl (C := RX3) (T := TX3) (N := 5) (ty := .int) rfl in_X3 tyX3 tyX3_ok nmX3 kf_X8_66 (by decide) rfl (by decide +kernel) rfl rfl hh hlen hdg kk
theorem kf_X9_197 : Cond.fieldLink RX9 197 (TX3 1).1 (TX3 1).2.1 (TX3 1).2.2.1 ∈ tbG := tb_at 123 (by decide +kernel) (by decide +kernel)
theorem gt_X9_197 {X : CX} {bytes : ByteArray} {ret : Option FieldType} {fr lo mc ms n1 : Nat} {post : Option Value → HP → Prop} {n k sl pc : Nat} {h : HP} {L : List (Option Value)} {st : List Value} (hX : Cx X RX9 bytes ret fr lo mc ms n1 post) {a : Nat} {fs : List Value} {v : Value} (hdg : decode bytes pc = .ok (.getfield 197, 3)) (hh : h a = some (cO 3 fs)) (hv : fs[1]? = some v) (kk : AW X n h k sl (pc + 3) L (v :: st)) : AW X n h k sl pc L (.ref a :: st) := aw_get hX 1 rfl (C := RX3) (T := TX3) (N := 5) rfl in_X3 kf_X9_197 (by decide) hh hv hdg kk
theorem pt_X9_197 {X : CX} {bytes : ByteArray} {ret : Option FieldType} {fr lo mc ms n1 : Nat} {post : Option Value → HP → Prop} {n k sl pc : Nat} {h : HP} {L : List (Option Value)} {st : List Value} (hX : Cx X RX9 bytes ret fr lo mc ms n1 post) {a : Nat} {fs : List Value} {v : Int32} (hdg : decode bytes pc = .ok (.putfield 197, 3)) (hh : h a = some (cO 3 fs)) (hlen : 1 < fs.length) (kk : AW X n (hset h a (cO 3 (fs.set 1 (.int v)))) k sl (pc + 3) L st) : AW X n h k sl pc L (.int v :: .ref a :: st) := aw_put hX 1 rfl (C := RX3) (T := TX3) (N := 5) (ty := .int) rfl in_X3 tyX3 tyX3_ok nmX3 kf_X9_197 (by decide) rfl (by decide +kernel) rfl rfl hh hlen hdg kk
theorem kf_X3_18 : Cond.fieldLink RX3 18 (TX3 2).1 (TX3 2).2.1 (TX3 2).2.2.1 ∈ tbG := tb_at 124 (by decide +kernel) (by decide +kernel)
theorem gt_X3_18 {X : CX} {bytes : ByteArray} {ret : Option FieldType} {fr lo mc ms n1 : Nat} {post : Option Value → HP → Prop} {n k sl pc : Nat} {h : HP} {L : List (Option Value)} {st : List Value} (hX : Cx X RX3 bytes ret fr lo mc ms n1 post) {a : Nat} {fs : List Value} {v : Value} (hdg : decode bytes pc = .ok (.getfield 18, 3)) (hh : h a = some (cO 3 fs)) (hv : fs[2]? = some v) (kk : AW X n h k sl (pc + 3) L (v :: st)) : AW X n h k sl pc L (.ref a :: st) := aw_get hX 2 rfl (C := RX3) (T := TX3) (N := 5) rfl in_X3 kf_X3_18 (by decide) hh hv hdg kk
theorem pt_X3_18 {X : CX} {bytes : ByteArray} {ret : Option FieldType} {fr lo mc ms n1 : Nat} {post : Option Value → HP → Prop} {n k sl pc : Nat} {h : HP} {L : List (Option Value)} {st : List Value} (hX : Cx X RX3 bytes ret fr lo mc ms n1 post) {a : Nat} {fs : List Value} {v : Int32} (hdg : decode bytes pc = .ok (.putfield 18, 3)) (hh : h a = some (cO 3 fs)) (hlen : 2 < fs.length) (kk : AW X n (hset h a (cO 3 (fs.set 2 (.int v)))) k sl (pc + 3) L st) : AW X n h k sl pc L (.int v :: .ref a :: st) := aw_put hX 2 rfl (C := RX3) (T := TX3) (N := 5) (ty := .int) rfl in_X3 tyX3 tyX3_ok nmX3 kf_X3_18 (by decide) rfl (by decide +kernel) rfl rfl hh hlen hdg kk
theorem kf_X9_200 : Cond.fieldLink RX9 200 (TX3 2).1 (TX3 2).2.1 (TX3 2).2.2.1 ∈ tbG := tb_at 125 (by decide +kernel) (by decide +kernel)
theorem gt_X9_200 {X : CX} {bytes : ByteArray} {ret : Option FieldType} {fr lo mc ms n1 : Nat} {post : Option Value → HP → Prop} {n k sl pc : Nat} {h : HP} {L : List (Option Value)} {st : List Value} (hX : Cx X RX9 bytes ret fr lo mc ms n1 post) {a : Nat} {fs : List Value} {v : Value} (hdg : decode bytes pc = .ok (.getfield 200, 3)) (hh : h a = some (cO 3 fs)) (hv : fs[2]? = some v) (kk : AW X n h k sl (pc + 3) L (v :: st)) : AW X n h k sl pc L (.ref a :: st) := aw_get hX 2 rfl (C := RX3) (T := TX3) (N := 5) rfl in_X3 kf_X9_200 (by decide) hh hv hdg kk
theorem pt_X9_200 {X : CX} {bytes : ByteArray} {ret : Option FieldType} {fr lo mc ms n1 : Nat} {post : Option Value → HP → Prop} {n k sl pc : Nat} {h : HP} {L : List (Option Value)} {st : List Value} (hX : Cx X RX9 bytes ret fr lo mc ms n1 post) {a : Nat} {fs : List Value} {v : Int32} (hdg : decode bytes pc = .ok (.putfield 200, 3)) (hh : h a = some (cO 3 fs)) (hlen : 2 < fs.length) (kk : AW X n (hset h a (cO 3 (fs.set 2 (.int v)))) k sl (pc + 3) L st) : AW X n h k sl pc L (.int v :: .ref a :: st) := aw_put hX 2 rfl (C := RX3) (T := TX3) (N := 5) (ty := .int) rfl in_X3 tyX3 tyX3_ok nmX3 kf_X9_200 (by decide) rfl (by decide +kernel) rfl rfl hh hlen hdg kk
theorem kf_X3_21 : Cond.fieldLink RX3 21 (TX3 3).1 (TX3 3).2.1 (TX3 3).2.2.1 ∈ tbG := tb_at 126 (by decide +kernel) (by decide +kernel)
theorem gt_X3_21 {X : CX} {bytes : ByteArray} {ret : Option FieldType} {fr lo mc ms n1 : Nat} {post : Option Value → HP → Prop} {n k sl pc : Nat} {h : HP} {L : List (Option Value)} {st : List Value} (hX : Cx X RX3 bytes ret fr lo mc ms n1 post) {a : Nat} {fs : List Value} {v : Value} (hdg : decode bytes pc = .ok (.getfield 21, 3)) (hh : h a = some (cO 3 fs)) (hv : fs[3]? = some v) (kk : AW X n h k sl (pc + 3) L (v :: st)) : AW X n h k sl pc L (.ref a :: st) := aw_get hX 3 rfl (C := RX3) (T := TX3) (N := 5) rfl in_X3 kf_X3_21 (by decide) hh hv hdg kk
theorem pt_X3_21 {X : CX} {bytes : ByteArray} {ret : Option FieldType} {fr lo mc ms n1 : Nat} {post : Option Value → HP → Prop} {n k sl pc : Nat} {h : HP} {L : List (Option Value)} {st : List Value} (hX : Cx X RX3 bytes ret fr lo mc ms n1 post) {a : Nat} {fs : List Value} {v : Int32} (hdg : decode bytes pc = .ok (.putfield 21, 3)) (hh : h a = some (cO 3 fs)) (hlen : 3 < fs.length) (kk : AW X n (hset h a (cO 3 (fs.set 3 (.int v)))) k sl (pc + 3) L st) : AW X n h k sl pc L (.int v :: .ref a :: st) := aw_put hX 3 rfl (C := RX3) (T := TX3) (N := 5) (ty := .int) rfl in_X3 tyX3 tyX3_ok nmX3 kf_X3_21 (by decide) rfl (by decide +kernel) rfl rfl hh hlen hdg kk
theorem kf_X9_203 : Cond.fieldLink RX9 203 (TX3 3).1 (TX3 3).2.1 (TX3 3).2.2.1 ∈ tbG := tb_at 127 (by decide +kernel) (by decide +kernel)
theorem gt_X9_203 {X : CX} {bytes : ByteArray} {ret : Option FieldType} {fr lo mc ms n1 : Nat} {post : Option Value → HP → Prop} {n k sl pc : Nat} {h : HP} {L : List (Option Value)} {st : List Value} (hX : Cx X RX9 bytes ret fr lo mc ms n1 post) {a : Nat} {fs : List Value} {v : Value} (hdg : decode bytes pc = .ok (.getfield 203, 3)) (hh : h a = some (cO 3 fs)) (hv : fs[3]? = some v) (kk : AW X n h k sl (pc + 3) L (v :: st)) : AW X n h k sl pc L (.ref a :: st) := aw_get hX 3 rfl (C := RX3) (T := TX3) (N := 5) rfl in_X3 kf_X9_203 (by decide) hh hv hdg kk
theorem pt_X9_203 {X : CX} {bytes : ByteArray} {ret : Option FieldType} {fr lo mc ms n1 : Nat} {post : Option Value → HP → Prop} {n k sl pc : Nat} {h : HP} {L : List (Option Value)} {st : List Value} (hX : Cx X RX9 bytes ret fr lo mc ms n1 post) {a : Nat} {fs : List Value} {v : Int32} (hdg : decode bytes pc = .ok (.putfield 203, 3)) (hh : h a = some (cO 3 fs)) (hlen : 3 < fs.length) (kk : AW X n (hset h a (cO 3 (fs.set 3 (.int v)))) k sl (pc + 3) L st) : AW X n h k sl pc L (.int v :: .ref a :: st) := aw_put hX 3 rfl (C := RX3) (T := TX3) (N := 5) (ty := .int) rfl in_X3 tyX3 tyX3_ok nmX3 kf_X9_203 (by decide) rfl (by decide +kernel) rfl rfl hh hlen hdg kk
theorem kf_X3_24 : Cond.fieldLink RX3 24 (TX3 4).1 (TX3 4).2.1 (TX3 4).2.2.1 ∈ tbG := tb_at 128 (by decide +kernel) (by decide +kernel)
theorem gt_X3_24 {X : CX} {bytes : ByteArray} {ret : Option FieldType} {fr lo mc ms n1 : Nat} {post : Option Value → HP → Prop} {n k sl pc : Nat} {h : HP} {L : List (Option Value)} {st : List Value} (hX : Cx X RX3 bytes ret fr lo mc ms n1 post) {a : Nat} {fs : List Value} {v : Value} (hdg : decode bytes pc = .ok (.getfield 24, 3)) (hh : h a = some (cO 3 fs)) (hv : fs[4]? = some v) (kk : AW X n h k sl (pc + 3) L (v :: st)) : AW X n h k sl pc L (.ref a :: st) := aw_get hX 4 rfl (C := RX3) (T := TX3) (N := 5) rfl in_X3 kf_X3_24 (by decide) hh hv hdg kk
theorem pf_X3_24 {X : CX} {bytes : ByteArray} {ret : Option FieldType} {fr lo mc ms n1 : Nat} {post : Option Value → HP → Prop} {n k sl pc : Nat} {h : HP} {L : List (Option Value)} {st : List Value} (hX : Cx X RX3 bytes ret fr lo mc ms n1 post) (hini : X.2.2.2.2.2.2.2.2.1.name = "<init>") {a b : Nat} {fs : List Value} (hdg : decode bytes pc = .ok (.putfield 24, 3)) (hh : h a = some (cO 3 fs)) (hlen : 4 < fs.length) (kk : AW X n (hset h a (cO 3 (fs.set 4 (.ref b)))) k sl (pc + 3) L st) : AW X n h k sl pc L (.ref b :: .ref a :: st) := aw_putF hX 4 rfl (C := RX3) (T := TX3) (N := 5) (ty := .array .int) (v := .ref b) rfl in_X3 tyX3 tyX3_ok nmX3 kf_X3_24 (by decide) rfl hini rfl (by decide +kernel) rfl rfl hh hlen hdg kk
theorem kf_X7_9 : Cond.fieldLink RX7 9 (TX7 0).1 (TX7 0).2.1 (TX7 0).2.2.1 ∈ tbG := tb_at 146 (by decide +kernel) (by decide +kernel)
theorem gt_X7_9 {X : CX} {bytes : ByteArray} {ret : Option FieldType} {fr lo mc ms n1 : Nat} {post : Option Value → HP → Prop} {n k sl pc : Nat} {h : HP} {L : List (Option Value)} {st : List Value} (hX : Cx X RX7 bytes ret fr lo mc ms n1 post) {a : Nat} {fs : List Value} {v : Value} (hdg : decode bytes pc = .ok (.getfield 9, 3)) (hh : h a = some (cO 7 fs)) (hv : fs[0]? = some v) (kk : AW X n h k sl (pc + 3) L (v :: st)) : AW X n h k sl pc L (.ref a :: st) := aw_get hX 0 rfl (C := RX7) (T := TX7) (N := 5) rfl in_X7 kf_X7_9 (by decide) hh hv hdg kk
theorem pf_X7_9 {X : CX} {bytes : ByteArray} {ret : Option FieldType} {fr lo mc ms n1 : Nat} {post : Option Value → HP → Prop} {n k sl pc : Nat} {h : HP} {L : List (Option Value)} {st : List Value} (hX : Cx X RX7 bytes ret fr lo mc ms n1 post) (hini : X.2.2.2.2.2.2.2.2.1.name = "<init>") {a b : Nat} {fs : List Value} (hdg : decode bytes pc = .ok (.putfield 9, 3)) (hh : h a = some (cO 7 fs)) (hlen : 0 < fs.length) (kk : AW X n (hset h a (cO 7 (fs.set 0 (.ref b)))) k sl (pc + 3) L st) : AW X n h k sl pc L (.ref b :: .ref a :: st) := aw_putF hX 0 rfl (C := RX7) (T := TX7) (N := 5) (ty := .array .int) (v := .ref b) rfl in_X7 tyX7 tyX7_ok nmX7 kf_X7_9 (by decide) rfl hini rfl (by decide +kernel) rfl rfl hh hlen hdg kk
theorem kf_X7_15 : Cond.fieldLink RX7 15 (TX7 1).1 (TX7 1).2.1 (TX7 1).2.2.1 ∈ tbG := tb_at 147 (by decide +kernel) (by decide +kernel)
theorem gt_X7_15 {X : CX} {bytes : ByteArray} {ret : Option FieldType} {fr lo mc ms n1 : Nat} {post : Option Value → HP → Prop} {n k sl pc : Nat} {h : HP} {L : List (Option Value)} {st : List Value} (hX : Cx X RX7 bytes ret fr lo mc ms n1 post) {a : Nat} {fs : List Value} {v : Value} (hdg : decode bytes pc = .ok (.getfield 15, 3)) (hh : h a = some (cO 7 fs)) (hv : fs[1]? = some v) (kk : AW X n h k sl (pc + 3) L (v :: st)) : AW X n h k sl pc L (.ref a :: st) := aw_get hX 1 rfl (C := RX7) (T := TX7) (N := 5) rfl in_X7 kf_X7_15 (by decide) hh hv hdg kk
theorem pf_X7_15 {X : CX} {bytes : ByteArray} {ret : Option FieldType} {fr lo mc ms n1 : Nat} {post : Option Value → HP → Prop} {n k sl pc : Nat} {h : HP} {L : List (Option Value)} {st : List Value} (hX : Cx X RX7 bytes ret fr lo mc ms n1 post) (hini : X.2.2.2.2.2.2.2.2.1.name = "<init>") {a b : Nat} {fs : List Value} (hdg : decode bytes pc = .ok (.putfield 15, 3)) (hh : h a = some (cO 7 fs)) (hlen : 1 < fs.length) (kk : AW X n (hset h a (cO 7 (fs.set 1 (.ref b)))) k sl (pc + 3) L st) : AW X n h k sl pc L (.ref b :: .ref a :: st) := aw_putF hX 1 rfl (C := RX7) (T := TX7) (N := 5) (ty := .array .int) (v := .ref b) rfl in_X7 tyX7 tyX7_ok nmX7 kf_X7_15 (by decide) rfl hini rfl (by decide +kernel) rfl rfl hh hlen hdg kk
theorem kf_X7_18 : Cond.fieldLink RX7 18 (TX7 2).1 (TX7 2).2.1 (TX7 2).2.2.1 ∈ tbG := tb_at 148 (by decide +kernel) (by decide +kernel)
theorem gt_X7_18 {X : CX} {bytes : ByteArray} {ret : Option FieldType} {fr lo mc ms n1 : Nat} {post : Option Value → HP → Prop} {n k sl pc : Nat} {h : HP} {L : List (Option Value)} {st : List Value} (hX : Cx X RX7 bytes ret fr lo mc ms n1 post) {a : Nat} {fs : List Value} {v : Value} (hdg : decode bytes pc = .ok (.getfield 18, 3)) (hh : h a = some (cO 7 fs)) (hv : fs[2]? = some v) (kk : AW X n h k sl (pc + 3) L (v :: st)) : AW X n h k sl pc L (.ref a :: st) := aw_get hX 2 rfl (C := RX7) (T := TX7) (N := 5) rfl in_X7 kf_X7_18 (by decide) hh hv hdg kk
theorem pf_X7_18 {X : CX} {bytes : ByteArray} {ret : Option FieldType} {fr lo mc ms n1 : Nat} {post : Option Value → HP → Prop} {n k sl pc : Nat} {h : HP} {L : List (Option Value)} {st : List Value} (hX : Cx X RX7 bytes ret fr lo mc ms n1 post) (hini : X.2.2.2.2.2.2.2.2.1.name = "<init>") {a b : Nat} {fs : List Value} (hdg : decode bytes pc = .ok (.putfield 18, 3)) (hh : h a = some (cO 7 fs)) (hlen : 2 < fs.length) (kk : AW X n (hset h a (cO 7 (fs.set 2 (.ref b)))) k sl (pc + 3) L st) : AW X n h k sl pc L (.ref b :: .ref a :: st) := aw_putF hX 2 rfl (C := RX7) (T := TX7) (N := 5) (ty := .array .int) (v := .ref b) rfl in_X7 tyX7 tyX7_ok nmX7 kf_X7_18 (by decide) rfl hini rfl (by decide +kernel) rfl rfl hh hlen hdg kk
theorem kf_X7_21 : Cond.fieldLink RX7 21 (TX7 3).1 (TX7 3).2.1 (TX7 3).2.2.1 ∈ tbG := tb_at 149 (by decide +kernel) (by decide +kernel)
theorem gt_X7_21 {X : CX} {bytes : ByteArray} {ret : Option FieldType} {fr lo mc ms n1 : Nat} {post : Option Value → HP → Prop} {n k sl pc : Nat} {h : HP} {L : List (Option Value)} {st : List Value} (hX : Cx X RX7 bytes ret fr lo mc ms n1 post) {a : Nat} {fs : List Value} {v : Value} (hdg : decode bytes pc = .ok (.getfield 21, 3)) (hh : h a = some (cO 7 fs)) (hv : fs[3]? = some v) (kk : AW X n h k sl (pc + 3) L (v :: st)) : AW X n h k sl pc L (.ref a :: st) := aw_get hX 3 rfl (C := RX7) (T := TX7) (N := 5) rfl in_X7 kf_X7_21 (by decide) hh hv hdg kk
theorem pf_X7_21 {X : CX} {bytes : ByteArray} {ret : Option FieldType} {fr lo mc ms n1 : Nat} {post : Option Value → HP → Prop} {n k sl pc : Nat} {h : HP} {L : List (Option Value)} {st : List Value} (hX : Cx X RX7 bytes ret fr lo mc ms n1 post) (hini : X.2.2.2.2.2.2.2.2.1.name = "<init>") {a b : Nat} {fs : List Value} (hdg : decode bytes pc = .ok (.putfield 21, 3)) (hh : h a = some (cO 7 fs)) (hlen : 3 < fs.length) (kk : AW X n (hset h a (cO 7 (fs.set 3 (.ref b)))) k sl (pc + 3) L st) : AW X n h k sl pc L (.ref b :: .ref a :: st) := aw_putF hX 3 rfl (C := RX7) (T := TX7) (N := 5) (ty := .array .int) (v := .ref b) rfl in_X7 tyX7 tyX7_ok nmX7 kf_X7_21 (by decide) rfl hini rfl (by decide +kernel) rfl rfl hh hlen hdg kk
theorem kf_X7_24 : Cond.fieldLink RX7 24 (TX7 4).1 (TX7 4).2.1 (TX7 4).2.2.1 ∈ tbG := tb_at 150 (by decide +kernel) (by decide +kernel)
theorem gt_X7_24 {X : CX} {bytes : ByteArray} {ret : Option FieldType} {fr lo mc ms n1 : Nat} {post : Option Value → HP → Prop} {n k sl pc : Nat} {h : HP} {L : List (Option Value)} {st : List Value} (hX : Cx X RX7 bytes ret fr lo mc ms n1 post) {a : Nat} {fs : List Value} {v : Value} (hdg : decode bytes pc = .ok (.getfield 24, 3)) (hh : h a = some (cO 7 fs)) (hv : fs[4]? = some v) (kk : AW X n h k sl (pc + 3) L (v :: st)) : AW X n h k sl pc L (.ref a :: st) := aw_get hX 4 rfl (C := RX7) (T := TX7) (N := 5) rfl in_X7 kf_X7_24 (by decide) hh hv hdg kk
theorem pt_X7_24 {X : CX} {bytes : ByteArray} {ret : Option FieldType} {fr lo mc ms n1 : Nat} {post : Option Value → HP → Prop} {n k sl pc : Nat} {h : HP} {L : List (Option Value)} {st : List Value} (hX : Cx X RX7 bytes ret fr lo mc ms n1 post) {a : Nat} {fs : List Value} {v : Int32} (hdg : decode bytes pc = .ok (.putfield 24, 3)) (hh : h a = some (cO 7 fs)) (hlen : 4 < fs.length) (kk : AW X n (hset h a (cO 7 (fs.set 4 (.int v)))) k sl (pc + 3) L st) : AW X n h k sl pc L (.int v :: .ref a :: st) := aw_put hX 4 rfl (C := RX7) (T := TX7) (N := 5) (ty := .int) rfl in_X7 tyX7 tyX7_ok nmX7 kf_X7_24 (by decide) rfl (by decide +kernel) rfl rfl hh hlen hdg kk
theorem kf_X6_54 : Cond.fieldLink RX6 54 (TX7 4).1 (TX7 4).2.1 (TX7 4).2.2.1 ∈ tbG := tb_at 151 (by decide +kernel) (by decide +kernel)
theorem gt_X6_54 {X : CX} {bytes : ByteArray} {ret : Option FieldType} {fr lo mc ms n1 : Nat} {post : Option Value → HP → Prop} {n k sl pc : Nat} {h : HP} {L : List (Option Value)} {st : List Value} (hX : Cx X RX6 bytes ret fr lo mc ms n1 post) {a : Nat} {fs : List Value} {v : Value} (hdg : decode bytes pc = .ok (.getfield 54, 3)) (hh : h a = some (cO 7 fs)) (hv : fs[4]? = some v) (kk : AW X n h k sl (pc + 3) L (v :: st)) : AW X n h k sl pc L (.ref a :: st) := aw_get hX 4 rfl (C := RX7) (T := TX7) (N := 5) rfl in_X7 kf_X6_54 (by decide) hh hv hdg kk
theorem pt_X6_54 {X : CX} {bytes : ByteArray} {ret : Option FieldType} {fr lo mc ms n1 : Nat} {post : Option Value → HP → Prop} {n k sl pc : Nat} {h : HP} {L : List (Option Value)} {st : List Value} (hX : Cx X RX6 bytes ret fr lo mc ms n1 post) {a : Nat} {fs : List Value} {v : Int32} (hdg : decode bytes pc = .ok (.putfield 54, 3)) (hh : h a = some (cO 7 fs)) (hlen : 4 < fs.length) (kk : AW X n (hset h a (cO 7 (fs.set 4 (.int v)))) k sl (pc + 3) L st) : AW X n h k sl pc L (.int v :: .ref a :: st) := aw_put hX 4 rfl (C := RX7) (T := TX7) (N := 5) (ty := .int) rfl in_X7 tyX7 tyX7_ok nmX7 kf_X6_54 (by decide) rfl (by decide +kernel) rfl rfl hh hlen hdg kk
theorem kf_X9_114 : Cond.fieldLink RX9 114 (TX7 4).1 (TX7 4).2.1 (TX7 4).2.2.1 ∈ tbG := tb_at 152 (by decide +kernel) (by decide +kernel)
theorem gt_X9_114 {X : CX} {bytes : ByteArray} {ret : Option FieldType} {fr lo mc ms n1 : Nat} {post : Option Value → HP → Prop} {n k sl pc : Nat} {h : HP} {L : List (Option Value)} {st : List Value} (hX : Cx X RX9 bytes ret fr lo mc ms n1 post) {a : Nat} {fs : List Value} {v : Value} (hdg : decode bytes pc = .ok (.getfield 114, 3)) (hh : h a = some (cO 7 fs)) (hv : fs[4]? = some v) (kk : AW X n h k sl (pc + 3) L (v :: st)) : AW X n h k sl pc L (.ref a :: st) := aw_get hX 4 rfl (C := RX7) (T := TX7) (N := 5) rfl in_X7 kf_X9_114 (by decide) hh hv hdg kk
theorem pt_X9_114 {X : CX} {bytes : ByteArray} {ret : Option FieldType} {fr lo mc ms n1 : Nat} {post : Option Value → HP → Prop} {n k sl pc : Nat} {h : HP} {L : List (Option Value)} {st : List Value} (hX : Cx X RX9 bytes ret fr lo mc ms n1 post) {a : Nat} {fs : List Value} {v : Int32} (hdg : decode bytes pc = .ok (.putfield 114, 3)) (hh : h a = some (cO 7 fs)) (hlen : 4 < fs.length) (kk : AW X n (hset h a (cO 7 (fs.set 4 (.int v)))) k sl (pc + 3) L st) : AW X n h k sl pc L (.int v :: .ref a :: st) := aw_put hX 4 rfl (C := RX7) (T := TX7) (N := 5) (ty := .int) rfl in_X7 tyX7 tyX7_ok nmX7 kf_X9_114 (by decide) rfl (by decide +kernel) rfl rfl hh hlen hdg kk
theorem kf_X8_12 : Cond.fieldLink RX8 12 (TX8 0).1 (TX8 0).2.1 (TX8 0).2.2.1 ∈ tbG := tb_at 173 (by decide +kernel) (by decide +kernel)
theorem gt_X8_12 {X : CX} {bytes : ByteArray} {ret : Option FieldType} {fr lo mc ms n1 : Nat} {post : Option Value → HP → Prop} {n k sl pc : Nat} {h : HP} {L : List (Option Value)} {st : List Value} (hX : Cx X RX8 bytes ret fr lo mc ms n1 post) {a : Nat} {fs : List Value} {v : Value} (hdg : decode bytes pc = .ok (.getfield 12, 3)) (hh : h a = some (cO 8 fs)) (hv : fs[0]? = some v) (kk : AW X n h k sl (pc + 3) L (v :: st)) : AW X n h k sl pc L (.ref a :: st) := aw_get hX 0 rfl (C := RX8) (T := TX8) (N := 4) rfl in_X8 kf_X8_12 (by decide) hh hv hdg kk
theorem pf_X8_12 {X : CX} {bytes : ByteArray} {ret : Option FieldType} {fr lo mc ms n1 : Nat} {post : Option Value → HP → Prop} {n k sl pc : Nat} {h : HP} {L : List (Option Value)} {st : List Value} (hX : Cx X RX8 bytes ret fr lo mc ms n1 post) (hini : X.2.2.2.2.2.2.2.2.1.name = "<init>") {a b : Nat} {fs : List Value} (hdg : decode bytes pc = .ok (.putfield 12, 3)) (hh : h a = some (cO 8 fs)) (hlen : 0 < fs.length) (kk : AW X n (hset h a (cO 8 (fs.set 0 (.ref b)))) k sl (pc + 3) L st) : AW X n h k sl pc L (.ref b :: .ref a :: st) := aw_putF hX 0 rfl (C := RX8) (T := TX8) (N := 4) (ty := .object "FlipBoard$Dots") (v := .ref b) rfl in_X8 tyX8 tyX8_ok nmX8 kf_X8_12 (by decide) rfl hini rfl (by decide +kernel) rfl rfl hh hlen hdg kk
theorem kf_X5_18 : Cond.fieldLink RX5 18 (TX8 0).1 (TX8 0).2.1 (TX8 0).2.2.1 ∈ tbG := tb_at 174 (by decide +kernel) (by decide +kernel)
theorem gt_X5_18 {X : CX} {bytes : ByteArray} {ret : Option FieldType} {fr lo mc ms n1 : Nat} {post : Option Value → HP → Prop} {n k sl pc : Nat} {h : HP} {L : List (Option Value)} {st : List Value} (hX : Cx X RX5 bytes ret fr lo mc ms n1 post) {a : Nat} {fs : List Value} {v : Value} (hdg : decode bytes pc = .ok (.getfield 18, 3)) (hh : h a = some (cO 8 fs)) (hv : fs[0]? = some v) (kk : AW X n h k sl (pc + 3) L (v :: st)) : AW X n h k sl pc L (.ref a :: st) := aw_get hX 0 rfl (C := RX8) (T := TX8) (N := 4) rfl in_X8 kf_X5_18 (by decide) hh hv hdg kk
theorem kf_X4_34 : Cond.fieldLink RX4 34 (TX8 0).1 (TX8 0).2.1 (TX8 0).2.2.1 ∈ tbG := tb_at 175 (by decide +kernel) (by decide +kernel)
theorem gt_X4_34 {X : CX} {bytes : ByteArray} {ret : Option FieldType} {fr lo mc ms n1 : Nat} {post : Option Value → HP → Prop} {n k sl pc : Nat} {h : HP} {L : List (Option Value)} {st : List Value} (hX : Cx X RX4 bytes ret fr lo mc ms n1 post) {a : Nat} {fs : List Value} {v : Value} (hdg : decode bytes pc = .ok (.getfield 34, 3)) (hh : h a = some (cO 8 fs)) (hv : fs[0]? = some v) (kk : AW X n h k sl (pc + 3) L (v :: st)) : AW X n h k sl pc L (.ref a :: st) := aw_get hX 0 rfl (C := RX8) (T := TX8) (N := 4) rfl in_X8 kf_X4_34 (by decide) hh hv hdg kk
theorem kf_X1_20 : Cond.fieldLink RX1 20 (TX8 0).1 (TX8 0).2.1 (TX8 0).2.2.1 ∈ tbG := tb_at 176 (by decide +kernel) (by decide +kernel)
theorem gt_X1_20 {X : CX} {bytes : ByteArray} {ret : Option FieldType} {fr lo mc ms n1 : Nat} {post : Option Value → HP → Prop} {n k sl pc : Nat} {h : HP} {L : List (Option Value)} {st : List Value} (hX : Cx X RX1 bytes ret fr lo mc ms n1 post) {a : Nat} {fs : List Value} {v : Value} (hdg : decode bytes pc = .ok (.getfield 20, 3)) (hh : h a = some (cO 8 fs)) (hv : fs[0]? = some v) (kk : AW X n h k sl (pc + 3) L (v :: st)) : AW X n h k sl pc L (.ref a :: st) := aw_get hX 0 rfl (C := RX8) (T := TX8) (N := 4) rfl in_X8 kf_X1_20 (by decide) hh hv hdg kk
theorem kf_X9_66 : Cond.fieldLink RX9 66 (TX8 0).1 (TX8 0).2.1 (TX8 0).2.2.1 ∈ tbG := tb_at 177 (by decide +kernel) (by decide +kernel)
theorem gt_X9_66 {X : CX} {bytes : ByteArray} {ret : Option FieldType} {fr lo mc ms n1 : Nat} {post : Option Value → HP → Prop} {n k sl pc : Nat} {h : HP} {L : List (Option Value)} {st : List Value} (hX : Cx X RX9 bytes ret fr lo mc ms n1 post) {a : Nat} {fs : List Value} {v : Value} (hdg : decode bytes pc = .ok (.getfield 66, 3)) (hh : h a = some (cO 8 fs)) (hv : fs[0]? = some v) (kk : AW X n h k sl (pc + 3) L (v :: st)) : AW X n h k sl pc L (.ref a :: st) := aw_get hX 0 rfl (C := RX8) (T := TX8) (N := 4) rfl in_X8 kf_X9_66 (by decide) hh hv hdg kk
theorem kf_X8_21 : Cond.fieldLink RX8 21 (TX8 1).1 (TX8 1).2.1 (TX8 1).2.2.1 ∈ tbG := tb_at 178 (by decide +kernel) (by decide +kernel)
theorem gt_X8_21 {X : CX} {bytes : ByteArray} {ret : Option FieldType} {fr lo mc ms n1 : Nat} {post : Option Value → HP → Prop} {n k sl pc : Nat} {h : HP} {L : List (Option Value)} {st : List Value} (hX : Cx X RX8 bytes ret fr lo mc ms n1 post) {a : Nat} {fs : List Value} {v : Value} (hdg : decode bytes pc = .ok (.getfield 21, 3)) (hh : h a = some (cO 8 fs)) (hv : fs[1]? = some v) (kk : AW X n h k sl (pc + 3) L (v :: st)) : AW X n h k sl pc L (.ref a :: st) := aw_get hX 1 rfl (C := RX8) (T := TX8) (N := 4) rfl in_X8 kf_X8_21 (by decide) hh hv hdg kk
theorem pf_X8_21 {X : CX} {bytes : ByteArray} {ret : Option FieldType} {fr lo mc ms n1 : Nat} {post : Option Value → HP → Prop} {n k sl pc : Nat} {h : HP} {L : List (Option Value)} {st : List Value} (hX : Cx X RX8 bytes ret fr lo mc ms n1 post) (hini : X.2.2.2.2.2.2.2.2.1.name = "<init>") {a b : Nat} {fs : List Value} (hdg : decode bytes pc = .ok (.putfield 21, 3)) (hh : h a = some (cO 8 fs)) (hlen : 1 < fs.length) (kk : AW X n (hset h a (cO 8 (fs.set 1 (.ref b)))) k sl (pc + 3) L st) : AW X n h k sl pc L (.ref b :: .ref a :: st) := aw_putF hX 1 rfl (C := RX8) (T := TX8) (N := 4) (ty := .object "FlipBoard$Meter") (v := .ref b) rfl in_X8 tyX8 tyX8_ok nmX8 kf_X8_21 (by decide) rfl hini rfl (by decide +kernel) rfl rfl hh hlen hdg kk
theorem kf_X9_79 : Cond.fieldLink RX9 79 (TX8 1).1 (TX8 1).2.1 (TX8 1).2.2.1 ∈ tbG := tb_at 179 (by decide +kernel) (by decide +kernel)
theorem gt_X9_79 {X : CX} {bytes : ByteArray} {ret : Option FieldType} {fr lo mc ms n1 : Nat} {post : Option Value → HP → Prop} {n k sl pc : Nat} {h : HP} {L : List (Option Value)} {st : List Value} (hX : Cx X RX9 bytes ret fr lo mc ms n1 post) {a : Nat} {fs : List Value} {v : Value} (hdg : decode bytes pc = .ok (.getfield 79, 3)) (hh : h a = some (cO 8 fs)) (hv : fs[1]? = some v) (kk : AW X n h k sl (pc + 3) L (v :: st)) : AW X n h k sl pc L (.ref a :: st) := aw_get hX 1 rfl (C := RX8) (T := TX8) (N := 4) rfl in_X8 kf_X9_79 (by decide) hh hv hdg kk
theorem kf_X1_38 : Cond.fieldLink RX1 38 (TX8 1).1 (TX8 1).2.1 (TX8 1).2.2.1 ∈ tbG := tb_at 180 (by decide +kernel) (by decide +kernel)
theorem gt_X1_38 {X : CX} {bytes : ByteArray} {ret : Option FieldType} {fr lo mc ms n1 : Nat} {post : Option Value → HP → Prop} {n k sl pc : Nat} {h : HP} {L : List (Option Value)} {st : List Value} (hX : Cx X RX1 bytes ret fr lo mc ms n1 post) {a : Nat} {fs : List Value} {v : Value} (hdg : decode bytes pc = .ok (.getfield 38, 3)) (hh : h a = some (cO 8 fs)) (hv : fs[1]? = some v) (kk : AW X n h k sl (pc + 3) L (v :: st)) : AW X n h k sl pc L (.ref a :: st) := aw_get hX 1 rfl (C := RX8) (T := TX8) (N := 4) rfl in_X8 kf_X1_38 (by decide) hh hv hdg kk
theorem kf_X8_28 : Cond.fieldLink RX8 28 (TX8 2).1 (TX8 2).2.1 (TX8 2).2.2.1 ∈ tbG := tb_at 181 (by decide +kernel) (by decide +kernel)
theorem gt_X8_28 {X : CX} {bytes : ByteArray} {ret : Option FieldType} {fr lo mc ms n1 : Nat} {post : Option Value → HP → Prop} {n k sl pc : Nat} {h : HP} {L : List (Option Value)} {st : List Value} (hX : Cx X RX8 bytes ret fr lo mc ms n1 post) {a : Nat} {fs : List Value} {v : Value} (hdg : decode bytes pc = .ok (.getfield 28, 3)) (hh : h a = some (cO 8 fs)) (hv : fs[2]? = some v) (kk : AW X n h k sl (pc + 3) L (v :: st)) : AW X n h k sl pc L (.ref a :: st) := aw_get hX 2 rfl (C := RX8) (T := TX8) (N := 4) rfl in_X8 kf_X8_28 (by decide) hh hv hdg kk
theorem pf_X8_28 {X : CX} {bytes : ByteArray} {ret : Option FieldType} {fr lo mc ms n1 : Nat} {post : Option Value → HP → Prop} {n k sl pc : Nat} {h : HP} {L : List (Option Value)} {st : List Value} (hX : Cx X RX8 bytes ret fr lo mc ms n1 post) (hini : X.2.2.2.2.2.2.2.2.1.name = "<init>") {a b : Nat} {fs : List Value} (hdg : decode bytes pc = .ok (.putfield 28, 3)) (hh : h a = some (cO 8 fs)) (hlen : 2 < fs.length) (kk : AW X n (hset h a (cO 8 (fs.set 2 (.ref b)))) k sl (pc + 3) L st) : AW X n h k sl pc L (.ref b :: .ref a :: st) := aw_putF hX 2 rfl (C := RX8) (T := TX8) (N := 4) (ty := .object "FlipBoard$Script") (v := .ref b) rfl in_X8 tyX8 tyX8_ok nmX8 kf_X8_28 (by decide) rfl hini rfl (by decide +kernel) rfl rfl hh hlen hdg kk
theorem kf_X5_30 : Cond.fieldLink RX5 30 (TX8 2).1 (TX8 2).2.1 (TX8 2).2.2.1 ∈ tbG := tb_at 182 (by decide +kernel) (by decide +kernel)
theorem gt_X5_30 {X : CX} {bytes : ByteArray} {ret : Option FieldType} {fr lo mc ms n1 : Nat} {post : Option Value → HP → Prop} {n k sl pc : Nat} {h : HP} {L : List (Option Value)} {st : List Value} (hX : Cx X RX5 bytes ret fr lo mc ms n1 post) {a : Nat} {fs : List Value} {v : Value} (hdg : decode bytes pc = .ok (.getfield 30, 3)) (hh : h a = some (cO 8 fs)) (hv : fs[2]? = some v) (kk : AW X n h k sl (pc + 3) L (v :: st)) : AW X n h k sl pc L (.ref a :: st) := aw_get hX 2 rfl (C := RX8) (T := TX8) (N := 4) rfl in_X8 kf_X5_30 (by decide) hh hv hdg kk
theorem kf_X9_100 : Cond.fieldLink RX9 100 (TX8 2).1 (TX8 2).2.1 (TX8 2).2.2.1 ∈ tbG := tb_at 183 (by decide +kernel) (by decide +kernel)
theorem gt_X9_100 {X : CX} {bytes : ByteArray} {ret : Option FieldType} {fr lo mc ms n1 : Nat} {post : Option Value → HP → Prop} {n k sl pc : Nat} {h : HP} {L : List (Option Value)} {st : List Value} (hX : Cx X RX9 bytes ret fr lo mc ms n1 post) {a : Nat} {fs : List Value} {v : Value} (hdg : decode bytes pc = .ok (.getfield 100, 3)) (hh : h a = some (cO 8 fs)) (hv : fs[2]? = some v) (kk : AW X n h k sl (pc + 3) L (v :: st)) : AW X n h k sl pc L (.ref a :: st) := aw_get hX 2 rfl (C := RX8) (T := TX8) (N := 4) rfl in_X8 kf_X9_100 (by decide) hh hv hdg kk
theorem kf_X8_41 : Cond.fieldLink RX8 41 (TX8 3).1 (TX8 3).2.1 (TX8 3).2.2.1 ∈ tbG := tb_at 184 (by decide +kernel) (by decide +kernel)
theorem gt_X8_41 {X : CX} {bytes : ByteArray} {ret : Option FieldType} {fr lo mc ms n1 : Nat} {post : Option Value → HP → Prop} {n k sl pc : Nat} {h : HP} {L : List (Option Value)} {st : List Value} (hX : Cx X RX8 bytes ret fr lo mc ms n1 post) {a : Nat} {fs : List Value} {v : Value} (hdg : decode bytes pc = .ok (.getfield 41, 3)) (hh : h a = some (cO 8 fs)) (hv : fs[3]? = some v) (kk : AW X n h k sl (pc + 3) L (v :: st)) : AW X n h k sl pc L (.ref a :: st) := aw_get hX 3 rfl (C := RX8) (T := TX8) (N := 4) rfl in_X8 kf_X8_41 (by decide) hh hv hdg kk
theorem pf_X8_41 {X : CX} {bytes : ByteArray} {ret : Option FieldType} {fr lo mc ms n1 : Nat} {post : Option Value → HP → Prop} {n k sl pc : Nat} {h : HP} {L : List (Option Value)} {st : List Value} (hX : Cx X RX8 bytes ret fr lo mc ms n1 post) (hini : X.2.2.2.2.2.2.2.2.1.name = "<init>") {a b : Nat} {fs : List Value} (hdg : decode bytes pc = .ok (.putfield 41, 3)) (hh : h a = some (cO 8 fs)) (hlen : 3 < fs.length) (kk : AW X n (hset h a (cO 8 (fs.set 3 (.ref b)))) k sl (pc + 3) L st) : AW X n h k sl pc L (.ref b :: .ref a :: st) := aw_putF hX 3 rfl (C := RX8) (T := TX8) (N := 4) (ty := .array .int) (v := .ref b) rfl in_X8 tyX8 tyX8_ok nmX8 kf_X8_41 (by decide) rfl hini rfl (by decide +kernel) rfl rfl hh hlen hdg kk
theorem kf_X1_15 : Cond.fieldLink RX1 15 (TX8 3).1 (TX8 3).2.1 (TX8 3).2.2.1 ∈ tbG := tb_at 185 (by decide +kernel) (by decide +kernel)
theorem gt_X1_15 {X : CX} {bytes : ByteArray} {ret : Option FieldType} {fr lo mc ms n1 : Nat} {post : Option Value → HP → Prop} {n k sl pc : Nat} {h : HP} {L : List (Option Value)} {st : List Value} (hX : Cx X RX1 bytes ret fr lo mc ms n1 post) {a : Nat} {fs : List Value} {v : Value} (hdg : decode bytes pc = .ok (.getfield 15, 3)) (hh : h a = some (cO 8 fs)) (hv : fs[3]? = some v) (kk : AW X n h k sl (pc + 3) L (v :: st)) : AW X n h k sl pc L (.ref a :: st) := aw_get hX 3 rfl (C := RX8) (T := TX8) (N := 4) rfl in_X8 kf_X1_15 (by decide) hh hv hdg kk
theorem kf_X9_97 : Cond.fieldLink RX9 97 (TX8 3).1 (TX8 3).2.1 (TX8 3).2.2.1 ∈ tbG := tb_at 186 (by decide +kernel) (by decide +kernel)
theorem gt_X9_97 {X : CX} {bytes : ByteArray} {ret : Option FieldType} {fr lo mc ms n1 : Nat} {post : Option Value → HP → Prop} {n k sl pc : Nat} {h : HP} {L : List (Option Value)} {st : List Value} (hX : Cx X RX9 bytes ret fr lo mc ms n1 post) {a : Nat} {fs : List Value} {v : Value} (hdg : decode bytes pc = .ok (.getfield 97, 3)) (hh : h a = some (cO 8 fs)) (hv : fs[3]? = some v) (kk : AW X n h k sl (pc + 3) L (v :: st)) : AW X n h k sl pc L (.ref a :: st) := aw_get hX 3 rfl (C := RX8) (T := TX8) (N := 4) rfl in_X8 kf_X9_97 (by decide) hh hv hdg kk
theorem kf_X2_11 : Cond.fieldLink RX2 11 (TX2 0).1 (TX2 0).2.1 (TX2 0).2.2.1 ∈ tbG := tb_at 205 (by decide +kernel) (by decide +kernel)
theorem gt_X2_11 {X : CX} {bytes : ByteArray} {ret : Option FieldType} {fr lo mc ms n1 : Nat} {post : Option Value → HP → Prop} {n k sl pc : Nat} {h : HP} {L : List (Option Value)} {st : List Value} (hX : Cx X RX2 bytes ret fr lo mc ms n1 post) {a : Nat} {fs : List Value} {v : Value} (hdg : decode bytes pc = .ok (.getfield 11, 3)) (hh : h a = some (cO 2 fs)) (hv : fs[0]? = some v) (kk : AW X n h k sl (pc + 3) L (v :: st)) : AW X n h k sl pc L (.ref a :: st) := aw_get hX 0 rfl (C := RX2) (T := TX2) (N := 3) rfl in_X2 kf_X2_11 (by decide) hh hv hdg kk
theorem pf_X2_11 {X : CX} {bytes : ByteArray} {ret : Option FieldType} {fr lo mc ms n1 : Nat} {post : Option Value → HP → Prop} {n k sl pc : Nat} {h : HP} {L : List (Option Value)} {st : List Value} (hX : Cx X RX2 bytes ret fr lo mc ms n1 post) (hini : X.2.2.2.2.2.2.2.2.1.name = "<init>") {a b : Nat} {fs : List Value} (hdg : decode bytes pc = .ok (.putfield 11, 3)) (hh : h a = some (cO 2 fs)) (hlen : 0 < fs.length) (kk : AW X n (hset h a (cO 2 (fs.set 0 (.ref b)))) k sl (pc + 3) L st) : AW X n h k sl pc L (.ref b :: .ref a :: st) := aw_putF hX 0 rfl (C := RX2) (T := TX2) (N := 3) (ty := .array (.object "FlipBoard$State")) (v := .ref b) rfl in_X2 tyX2 tyX2_ok nmX2 kf_X2_11 (by decide) rfl hini rfl (by decide +kernel) rfl rfl hh hlen hdg kk
theorem kf_X2_17 : Cond.fieldLink RX2 17 (TX2 1).1 (TX2 1).2.1 (TX2 1).2.2.1 ∈ tbG := tb_at 206 (by decide +kernel) (by decide +kernel)
theorem gt_X2_17 {X : CX} {bytes : ByteArray} {ret : Option FieldType} {fr lo mc ms n1 : Nat} {post : Option Value → HP → Prop} {n k sl pc : Nat} {h : HP} {L : List (Option Value)} {st : List Value} (hX : Cx X RX2 bytes ret fr lo mc ms n1 post) {a : Nat} {fs : List Value} {v : Value} (hdg : decode bytes pc = .ok (.getfield 17, 3)) (hh : h a = some (cO 2 fs)) (hv : fs[1]? = some v) (kk : AW X n h k sl (pc + 3) L (v :: st)) : AW X n h k sl pc L (.ref a :: st) := aw_get hX 1 rfl (C := RX2) (T := TX2) (N := 3) rfl in_X2 kf_X2_17 (by decide) hh hv hdg kk
theorem pt_X2_17 {X : CX} {bytes : ByteArray} {ret : Option FieldType} {fr lo mc ms n1 : Nat} {post : Option Value → HP → Prop} {n k sl pc : Nat} {h : HP} {L : List (Option Value)} {st : List Value} (hX : Cx X RX2 bytes ret fr lo mc ms n1 post) {a : Nat} {fs : List Value} {v : Int32} (hdg : decode bytes pc = .ok (.putfield 17, 3)) (hh : h a = some (cO 2 fs)) (hlen : 1 < fs.length) (kk : AW X n (hset h a (cO 2 (fs.set 1 (.int v)))) k sl (pc + 3) L st) : AW X n h k sl pc L (.int v :: .ref a :: st) := aw_put hX 1 rfl (C := RX2) (T := TX2) (N := 3) (ty := .int) rfl in_X2 tyX2 tyX2_ok nmX2 kf_X2_17 (by decide) rfl (by decide +kernel) rfl rfl hh hlen hdg kk
theorem kf_X2_21 : Cond.fieldLink RX2 21 (TX2 2).1 (TX2 2).2.1 (TX2 2).2.2.1 ∈ tbG := tb_at 207 (by decide +kernel) (by decide +kernel)
theorem gt_X2_21 {X : CX} {bytes : ByteArray} {ret : Option FieldType} {fr lo mc ms n1 : Nat} {post : Option Value → HP → Prop} {n k sl pc : Nat} {h : HP} {L : List (Option Value)} {st : List Value} (hX : Cx X RX2 bytes ret fr lo mc ms n1 post) {a : Nat} {fs : List Value} {v : Value} (hdg : decode bytes pc = .ok (.getfield 21, 3)) (hh : h a = some (cO 2 fs)) (hv : fs[2]? = some v) (kk : AW X n h k sl (pc + 3) L (v :: st)) : AW X n h k sl pc L (.ref a :: st) := aw_get hX 2 rfl (C := RX2) (T := TX2) (N := 3) rfl in_X2 kf_X2_21 (by decide) hh hv hdg kk
theorem pt_X2_21 {X : CX} {bytes : ByteArray} {ret : Option FieldType} {fr lo mc ms n1 : Nat} {post : Option Value → HP → Prop} {n k sl pc : Nat} {h : HP} {L : List (Option Value)} {st : List Value} (hX : Cx X RX2 bytes ret fr lo mc ms n1 post) {a : Nat} {fs : List Value} {v : Int32} (hdg : decode bytes pc = .ok (.putfield 21, 3)) (hh : h a = some (cO 2 fs)) (hlen : 2 < fs.length) (kk : AW X n (hset h a (cO 2 (fs.set 2 (.int v)))) k sl (pc + 3) L st) : AW X n h k sl pc L (.int v :: .ref a :: st) := aw_put hX 2 rfl (C := RX2) (T := TX2) (N := 3) (ty := .int) rfl in_X2 tyX2 tyX2_ok nmX2 kf_X2_21 (by decide) rfl (by decide +kernel) rfl rfl hh hlen hdg kk
theorem kf_X9_206 : Cond.fieldLink RX9 206 (TX2 2).1 (TX2 2).2.1 (TX2 2).2.2.1 ∈ tbG := tb_at 208 (by decide +kernel) (by decide +kernel)
theorem gt_X9_206 {X : CX} {bytes : ByteArray} {ret : Option FieldType} {fr lo mc ms n1 : Nat} {post : Option Value → HP → Prop} {n k sl pc : Nat} {h : HP} {L : List (Option Value)} {st : List Value} (hX : Cx X RX9 bytes ret fr lo mc ms n1 post) {a : Nat} {fs : List Value} {v : Value} (hdg : decode bytes pc = .ok (.getfield 206, 3)) (hh : h a = some (cO 2 fs)) (hv : fs[2]? = some v) (kk : AW X n h k sl (pc + 3) L (v :: st)) : AW X n h k sl pc L (.ref a :: st) := aw_get hX 2 rfl (C := RX2) (T := TX2) (N := 3) rfl in_X2 kf_X9_206 (by decide) hh hv hdg kk
theorem pt_X9_206 {X : CX} {bytes : ByteArray} {ret : Option FieldType} {fr lo mc ms n1 : Nat} {post : Option Value → HP → Prop} {n k sl pc : Nat} {h : HP} {L : List (Option Value)} {st : List Value} (hX : Cx X RX9 bytes ret fr lo mc ms n1 post) {a : Nat} {fs : List Value} {v : Int32} (hdg : decode bytes pc = .ok (.putfield 206, 3)) (hh : h a = some (cO 2 fs)) (hlen : 2 < fs.length) (kk : AW X n (hset h a (cO 2 (fs.set 2 (.int v)))) k sl (pc + 3) L st) : AW X n h k sl pc L (.int v :: .ref a :: st) := aw_put hX 2 rfl (C := RX2) (T := TX2) (N := 3) (ty := .int) rfl in_X2 tyX2 tyX2_ok nmX2 kf_X9_206 (by decide) rfl (by decide +kernel) rfl rfl hh hlen hdg kk
theorem kf_X5_9 : Cond.fieldLink RX5 9 (TX5 0).1 (TX5 0).2.1 (TX5 0).2.2.1 ∈ tbG := tb_at 222 (by decide +kernel) (by decide +kernel)
theorem gt_X5_9 {X : CX} {bytes : ByteArray} {ret : Option FieldType} {fr lo mc ms n1 : Nat} {post : Option Value → HP → Prop} {n k sl pc : Nat} {h : HP} {L : List (Option Value)} {st : List Value} (hX : Cx X RX5 bytes ret fr lo mc ms n1 post) {a : Nat} {fs : List Value} {v : Value} (hdg : decode bytes pc = .ok (.getfield 9, 3)) (hh : h a = some (cO 5 fs)) (hv : fs[0]? = some v) (kk : AW X n h k sl (pc + 3) L (v :: st)) : AW X n h k sl pc L (.ref a :: st) := aw_get hX 0 rfl (C := RX5) (T := TX5) (N := 2) rfl in_X5 kf_X5_9 (by decide) hh hv hdg kk
theorem pf_X5_9 {X : CX} {bytes : ByteArray} {ret : Option FieldType} {fr lo mc ms n1 : Nat} {post : Option Value → HP → Prop} {n k sl pc : Nat} {h : HP} {L : List (Option Value)} {st : List Value} (hX : Cx X RX5 bytes ret fr lo mc ms n1 post) (hini : X.2.2.2.2.2.2.2.2.1.name = "<init>") {a b : Nat} {fs : List Value} (hdg : decode bytes pc = .ok (.putfield 9, 3)) (hh : h a = some (cO 5 fs)) (hlen : 0 < fs.length) (kk : AW X n (hset h a (cO 5 (fs.set 0 (.ref b)))) k sl (pc + 3) L st) : AW X n h k sl pc L (.ref b :: .ref a :: st) := aw_putF hX 0 rfl (C := RX5) (T := TX5) (N := 2) (ty := .array .int) (v := .ref b) rfl in_X5 tyX5 tyX5_ok nmX5 kf_X5_9 (by decide) rfl hini rfl (by decide +kernel) rfl rfl hh hlen hdg kk
theorem kf_X9_151 : Cond.fieldLink RX9 151 (TX5 0).1 (TX5 0).2.1 (TX5 0).2.2.1 ∈ tbG := tb_at 223 (by decide +kernel) (by decide +kernel)
theorem gt_X9_151 {X : CX} {bytes : ByteArray} {ret : Option FieldType} {fr lo mc ms n1 : Nat} {post : Option Value → HP → Prop} {n k sl pc : Nat} {h : HP} {L : List (Option Value)} {st : List Value} (hX : Cx X RX9 bytes ret fr lo mc ms n1 post) {a : Nat} {fs : List Value} {v : Value} (hdg : decode bytes pc = .ok (.getfield 151, 3)) (hh : h a = some (cO 5 fs)) (hv : fs[0]? = some v) (kk : AW X n h k sl (pc + 3) L (v :: st)) : AW X n h k sl pc L (.ref a :: st) := aw_get hX 0 rfl (C := RX5) (T := TX5) (N := 2) rfl in_X5 kf_X9_151 (by decide) hh hv hdg kk
theorem kf_X5_15 : Cond.fieldLink RX5 15 (TX5 1).1 (TX5 1).2.1 (TX5 1).2.2.1 ∈ tbG := tb_at 224 (by decide +kernel) (by decide +kernel)
theorem gt_X5_15 {X : CX} {bytes : ByteArray} {ret : Option FieldType} {fr lo mc ms n1 : Nat} {post : Option Value → HP → Prop} {n k sl pc : Nat} {h : HP} {L : List (Option Value)} {st : List Value} (hX : Cx X RX5 bytes ret fr lo mc ms n1 post) {a : Nat} {fs : List Value} {v : Value} (hdg : decode bytes pc = .ok (.getfield 15, 3)) (hh : h a = some (cO 5 fs)) (hv : fs[1]? = some v) (kk : AW X n h k sl (pc + 3) L (v :: st)) : AW X n h k sl pc L (.ref a :: st) := aw_get hX 1 rfl (C := RX5) (T := TX5) (N := 2) rfl in_X5 kf_X5_15 (by decide) hh hv hdg kk
theorem pf_X5_15 {X : CX} {bytes : ByteArray} {ret : Option FieldType} {fr lo mc ms n1 : Nat} {post : Option Value → HP → Prop} {n k sl pc : Nat} {h : HP} {L : List (Option Value)} {st : List Value} (hX : Cx X RX5 bytes ret fr lo mc ms n1 post) (hini : X.2.2.2.2.2.2.2.2.1.name = "<init>") {a b : Nat} {fs : List Value} (hdg : decode bytes pc = .ok (.putfield 15, 3)) (hh : h a = some (cO 5 fs)) (hlen : 1 < fs.length) (kk : AW X n (hset h a (cO 5 (fs.set 1 (.ref b)))) k sl (pc + 3) L st) : AW X n h k sl pc L (.ref b :: .ref a :: st) := aw_putF hX 1 rfl (C := RX5) (T := TX5) (N := 2) (ty := .array .int) (v := .ref b) rfl in_X5 tyX5 tyX5_ok nmX5 kf_X5_15 (by decide) rfl hini rfl (by decide +kernel) rfl rfl hh hlen hdg kk
theorem kf_X9_253 : Cond.fieldLink RX9 253 (TX5 1).1 (TX5 1).2.1 (TX5 1).2.2.1 ∈ tbG := tb_at 225 (by decide +kernel) (by decide +kernel)
theorem gt_X9_253 {X : CX} {bytes : ByteArray} {ret : Option FieldType} {fr lo mc ms n1 : Nat} {post : Option Value → HP → Prop} {n k sl pc : Nat} {h : HP} {L : List (Option Value)} {st : List Value} (hX : Cx X RX9 bytes ret fr lo mc ms n1 post) {a : Nat} {fs : List Value} {v : Value} (hdg : decode bytes pc = .ok (.getfield 253, 3)) (hh : h a = some (cO 5 fs)) (hv : fs[1]? = some v) (kk : AW X n h k sl (pc + 3) L (v :: st)) : AW X n h k sl pc L (.ref a :: st) := aw_get hX 1 rfl (C := RX5) (T := TX5) (N := 2) rfl in_X5 kf_X9_253 (by decide) hh hv hdg kk
theorem kf_X1_9 : Cond.fieldLink RX1 9 (TX1 0).1 (TX1 0).2.1 (TX1 0).2.2.1 ∈ tbG := tb_at 237 (by decide +kernel) (by decide +kernel)
theorem gt_X1_9 {X : CX} {bytes : ByteArray} {ret : Option FieldType} {fr lo mc ms n1 : Nat} {post : Option Value → HP → Prop} {n k sl pc : Nat} {h : HP} {L : List (Option Value)} {st : List Value} (hX : Cx X RX1 bytes ret fr lo mc ms n1 post) {a : Nat} {fs : List Value} {v : Value} (hdg : decode bytes pc = .ok (.getfield 9, 3)) (hh : h a = some (cO 1 fs)) (hv : fs[0]? = some v) (kk : AW X n h k sl (pc + 3) L (v :: st)) : AW X n h k sl pc L (.ref a :: st) := aw_get hX 0 rfl (C := RX1) (T := TX1) (N := 1) rfl in_X1 kf_X1_9 (by decide) hh hv hdg kk
theorem pf_X1_9 {X : CX} {bytes : ByteArray} {ret : Option FieldType} {fr lo mc ms n1 : Nat} {post : Option Value → HP → Prop} {n k sl pc : Nat} {h : HP} {L : List (Option Value)} {st : List Value} (hX : Cx X RX1 bytes ret fr lo mc ms n1 post) (hini : X.2.2.2.2.2.2.2.2.1.name = "<init>") {a b : Nat} {fs : List Value} (hdg : decode bytes pc = .ok (.putfield 9, 3)) (hh : h a = some (cO 1 fs)) (hlen : 0 < fs.length) (kk : AW X n (hset h a (cO 1 (fs.set 0 (.ref b)))) k sl (pc + 3) L st) : AW X n h k sl pc L (.ref b :: .ref a :: st) := aw_putF hX 0 rfl (C := RX1) (T := TX1) (N := 1) (ty := .array .int) (v := .ref b) rfl in_X1 tyX1 tyX1_ok nmX1 kf_X1_9 (by decide) rfl hini rfl (by decide +kernel) rfl rfl hh hlen hdg kk
theorem kf_X6_12 : Cond.fieldLink RX6 12 (TX6 0).1 (TX6 0).2.1 (TX6 0).2.2.1 ∈ tbG := tb_at 249 (by decide +kernel) (by decide +kernel)
theorem gt_X6_12 {X : CX} {bytes : ByteArray} {ret : Option FieldType} {fr lo mc ms n1 : Nat} {post : Option Value → HP → Prop} {n k sl pc : Nat} {h : HP} {L : List (Option Value)} {st : List Value} (hX : Cx X RX6 bytes ret fr lo mc ms n1 post) {a : Nat} {fs : List Value} {v : Value} (hdg : decode bytes pc = .ok (.getfield 12, 3)) (hh : h a = some (cO 6 fs)) (hv : fs[0]? = some v) (kk : AW X n h k sl (pc + 3) L (v :: st)) : AW X n h k sl pc L (.ref a :: st) := aw_get hX 0 rfl (C := RX6) (T := TX6) (N := 5) rfl in_X6 kf_X6_12 (by decide) hh hv hdg kk
theorem pf_X6_12 {X : CX} {bytes : ByteArray} {ret : Option FieldType} {fr lo mc ms n1 : Nat} {post : Option Value → HP → Prop} {n k sl pc : Nat} {h : HP} {L : List (Option Value)} {st : List Value} (hX : Cx X RX6 bytes ret fr lo mc ms n1 post) (hini : X.2.2.2.2.2.2.2.2.1.name = "<init>") {a b : Nat} {fs : List Value} (hdg : decode bytes pc = .ok (.putfield 12, 3)) (hh : h a = some (cO 6 fs)) (hlen : 0 < fs.length) (kk : AW X n (hset h a (cO 6 (fs.set 0 (.ref b)))) k sl (pc + 3) L st) : AW X n h k sl pc L (.ref b :: .ref a :: st) := aw_putF hX 0 rfl (C := RX6) (T := TX6) (N := 5) (ty := .object "FlipBoard$Script") (v := .ref b) rfl in_X6 tyX6 tyX6_ok nmX6 kf_X6_12 (by decide) rfl hini rfl (by decide +kernel) rfl rfl hh hlen hdg kk
theorem kf_X9_133 : Cond.fieldLink RX9 133 (TX6 0).1 (TX6 0).2.1 (TX6 0).2.2.1 ∈ tbG := tb_at 250 (by decide +kernel) (by decide +kernel)
theorem gt_X9_133 {X : CX} {bytes : ByteArray} {ret : Option FieldType} {fr lo mc ms n1 : Nat} {post : Option Value → HP → Prop} {n k sl pc : Nat} {h : HP} {L : List (Option Value)} {st : List Value} (hX : Cx X RX9 bytes ret fr lo mc ms n1 post) {a : Nat} {fs : List Value} {v : Value} (hdg : decode bytes pc = .ok (.getfield 133, 3)) (hh : h a = some (cO 6 fs)) (hv : fs[0]? = some v) (kk : AW X n h k sl (pc + 3) L (v :: st)) : AW X n h k sl pc L (.ref a :: st) := aw_get hX 0 rfl (C := RX6) (T := TX6) (N := 5) rfl in_X6 kf_X9_133 (by decide) hh hv hdg kk
theorem kf_X6_18 : Cond.fieldLink RX6 18 (TX6 1).1 (TX6 1).2.1 (TX6 1).2.2.1 ∈ tbG := tb_at 251 (by decide +kernel) (by decide +kernel)
theorem gt_X6_18 {X : CX} {bytes : ByteArray} {ret : Option FieldType} {fr lo mc ms n1 : Nat} {post : Option Value → HP → Prop} {n k sl pc : Nat} {h : HP} {L : List (Option Value)} {st : List Value} (hX : Cx X RX6 bytes ret fr lo mc ms n1 post) {a : Nat} {fs : List Value} {v : Value} (hdg : decode bytes pc = .ok (.getfield 18, 3)) (hh : h a = some (cO 6 fs)) (hv : fs[1]? = some v) (kk : AW X n h k sl (pc + 3) L (v :: st)) : AW X n h k sl pc L (.ref a :: st) := aw_get hX 1 rfl (C := RX6) (T := TX6) (N := 5) rfl in_X6 kf_X6_18 (by decide) hh hv hdg kk
theorem pt_X6_18 {X : CX} {bytes : ByteArray} {ret : Option FieldType} {fr lo mc ms n1 : Nat} {post : Option Value → HP → Prop} {n k sl pc : Nat} {h : HP} {L : List (Option Value)} {st : List Value} (hX : Cx X RX6 bytes ret fr lo mc ms n1 post) {a : Nat} {fs : List Value} {v : Int32} (hdg : decode bytes pc = .ok (.putfield 18, 3)) (hh : h a = some (cO 6 fs)) (hlen : 1 < fs.length) (kk : AW X n (hset h a (cO 6 (fs.set 1 (.int v)))) k sl (pc + 3) L st) : AW X n h k sl pc L (.int v :: .ref a :: st) := aw_put hX 1 rfl (C := RX6) (T := TX6) (N := 5) (ty := .int) rfl in_X6 tyX6 tyX6_ok nmX6 kf_X6_18 (by decide) rfl (by decide +kernel) rfl rfl hh hlen hdg kk
theorem kf_X9_140 : Cond.fieldLink RX9 140 (TX6 1).1 (TX6 1).2.1 (TX6 1).2.2.1 ∈ tbG := tb_at 252 (by decide +kernel) (by decide +kernel)
theorem gt_X9_140 {X : CX} {bytes : ByteArray} {ret : Option FieldType} {fr lo mc ms n1 : Nat} {post : Option Value → HP → Prop} {n k sl pc : Nat} {h : HP} {L : List (Option Value)} {st : List Value} (hX : Cx X RX9 bytes ret fr lo mc ms n1 post) {a : Nat} {fs : List Value} {v : Value} (hdg : decode bytes pc = .ok (.getfield 140, 3)) (hh : h a = some (cO 6 fs)) (hv : fs[1]? = some v) (kk : AW X n h k sl (pc + 3) L (v :: st)) : AW X n h k sl pc L (.ref a :: st) := aw_get hX 1 rfl (C := RX6) (T := TX6) (N := 5) rfl in_X6 kf_X9_140 (by decide) hh hv hdg kk
theorem pt_X9_140 {X : CX} {bytes : ByteArray} {ret : Option FieldType} {fr lo mc ms n1 : Nat} {post : Option Value → HP → Prop} {n k sl pc : Nat} {h : HP} {L : List (Option Value)} {st : List Value} (hX : Cx X RX9 bytes ret fr lo mc ms n1 post) {a : Nat} {fs : List Value} {v : Int32} (hdg : decode bytes pc = .ok (.putfield 140, 3)) (hh : h a = some (cO 6 fs)) (hlen : 1 < fs.length) (kk : AW X n (hset h a (cO 6 (fs.set 1 (.int v)))) k sl (pc + 3) L st) : AW X n h k sl pc L (.int v :: .ref a :: st) := aw_put hX 1 rfl (C := RX6) (T := TX6) (N := 5) (ty := .int) rfl in_X6 tyX6 tyX6_ok nmX6 kf_X9_140 (by decide) rfl (by decide +kernel) rfl rfl hh hlen hdg kk
theorem kf_X6_22 : Cond.fieldLink RX6 22 (TX6 2).1 (TX6 2).2.1 (TX6 2).2.2.1 ∈ tbG := tb_at 253 (by decide +kernel) (by decide +kernel)
theorem gt_X6_22 {X : CX} {bytes : ByteArray} {ret : Option FieldType} {fr lo mc ms n1 : Nat} {post : Option Value → HP → Prop} {n k sl pc : Nat} {h : HP} {L : List (Option Value)} {st : List Value} (hX : Cx X RX6 bytes ret fr lo mc ms n1 post) {a : Nat} {fs : List Value} {v : Value} (hdg : decode bytes pc = .ok (.getfield 22, 3)) (hh : h a = some (cO 6 fs)) (hv : fs[2]? = some v) (kk : AW X n h k sl (pc + 3) L (v :: st)) : AW X n h k sl pc L (.ref a :: st) := aw_get hX 2 rfl (C := RX6) (T := TX6) (N := 5) rfl in_X6 kf_X6_22 (by decide) hh hv hdg kk
theorem pt_X6_22 {X : CX} {bytes : ByteArray} {ret : Option FieldType} {fr lo mc ms n1 : Nat} {post : Option Value → HP → Prop} {n k sl pc : Nat} {h : HP} {L : List (Option Value)} {st : List Value} (hX : Cx X RX6 bytes ret fr lo mc ms n1 post) {a : Nat} {fs : List Value} {v : Int32} (hdg : decode bytes pc = .ok (.putfield 22, 3)) (hh : h a = some (cO 6 fs)) (hlen : 2 < fs.length) (kk : AW X n (hset h a (cO 6 (fs.set 2 (.int v)))) k sl (pc + 3) L st) : AW X n h k sl pc L (.int v :: .ref a :: st) := aw_put hX 2 rfl (C := RX6) (T := TX6) (N := 5) (ty := .int) rfl in_X6 tyX6 tyX6_ok nmX6 kf_X6_22 (by decide) rfl (by decide +kernel) rfl rfl hh hlen hdg kk
theorem kf_X6_25 : Cond.fieldLink RX6 25 (TX6 3).1 (TX6 3).2.1 (TX6 3).2.2.1 ∈ tbG := tb_at 254 (by decide +kernel) (by decide +kernel)
theorem gt_X6_25 {X : CX} {bytes : ByteArray} {ret : Option FieldType} {fr lo mc ms n1 : Nat} {post : Option Value → HP → Prop} {n k sl pc : Nat} {h : HP} {L : List (Option Value)} {st : List Value} (hX : Cx X RX6 bytes ret fr lo mc ms n1 post) {a : Nat} {fs : List Value} {v : Value} (hdg : decode bytes pc = .ok (.getfield 25, 3)) (hh : h a = some (cO 6 fs)) (hv : fs[3]? = some v) (kk : AW X n h k sl (pc + 3) L (v :: st)) : AW X n h k sl pc L (.ref a :: st) := aw_get hX 3 rfl (C := RX6) (T := TX6) (N := 5) rfl in_X6 kf_X6_25 (by decide) hh hv hdg kk
theorem pt_X6_25 {X : CX} {bytes : ByteArray} {ret : Option FieldType} {fr lo mc ms n1 : Nat} {post : Option Value → HP → Prop} {n k sl pc : Nat} {h : HP} {L : List (Option Value)} {st : List Value} (hX : Cx X RX6 bytes ret fr lo mc ms n1 post) {a : Nat} {fs : List Value} {v : Int32} (hdg : decode bytes pc = .ok (.putfield 25, 3)) (hh : h a = some (cO 6 fs)) (hlen : 3 < fs.length) (kk : AW X n (hset h a (cO 6 (fs.set 3 (.int v)))) k sl (pc + 3) L st) : AW X n h k sl pc L (.int v :: .ref a :: st) := aw_put hX 3 rfl (C := RX6) (T := TX6) (N := 5) (ty := .int) rfl in_X6 tyX6 tyX6_ok nmX6 kf_X6_25 (by decide) rfl (by decide +kernel) rfl rfl hh hlen hdg kk
theorem kf_X6_28 : Cond.fieldLink RX6 28 (TX6 4).1 (TX6 4).2.1 (TX6 4).2.2.1 ∈ tbG := tb_at 255 (by decide +kernel) (by decide +kernel)
theorem gt_X6_28 {X : CX} {bytes : ByteArray} {ret : Option FieldType} {fr lo mc ms n1 : Nat} {post : Option Value → HP → Prop} {n k sl pc : Nat} {h : HP} {L : List (Option Value)} {st : List Value} (hX : Cx X RX6 bytes ret fr lo mc ms n1 post) {a : Nat} {fs : List Value} {v : Value} (hdg : decode bytes pc = .ok (.getfield 28, 3)) (hh : h a = some (cO 6 fs)) (hv : fs[4]? = some v) (kk : AW X n h k sl (pc + 3) L (v :: st)) : AW X n h k sl pc L (.ref a :: st) := aw_get hX 4 rfl (C := RX6) (T := TX6) (N := 5) rfl in_X6 kf_X6_28 (by decide) hh hv hdg kk
theorem pt_X6_28 {X : CX} {bytes : ByteArray} {ret : Option FieldType} {fr lo mc ms n1 : Nat} {post : Option Value → HP → Prop} {n k sl pc : Nat} {h : HP} {L : List (Option Value)} {st : List Value} (hX : Cx X RX6 bytes ret fr lo mc ms n1 post) {a : Nat} {fs : List Value} {v : Int32} (hdg : decode bytes pc = .ok (.putfield 28, 3)) (hh : h a = some (cO 6 fs)) (hlen : 4 < fs.length) (kk : AW X n (hset h a (cO 6 (fs.set 4 (.int v)))) k sl (pc + 3) L st) : AW X n h k sl pc L (.int v :: .ref a :: st) := aw_put hX 4 rfl (C := RX6) (T := TX6) (N := 5) (ty := .int) rfl in_X6 tyX6 tyX6_ok nmX6 kf_X6_28 (by decide) rfl (by decide +kernel) rfl rfl hh hlen hdg kk
theorem kf_X4_11 : Cond.fieldLink RX4 11 (TX4 0).1 (TX4 0).2.1 (TX4 0).2.2.1 ∈ tbG := tb_at 275 (by decide +kernel) (by decide +kernel)
theorem gt_X4_11 {X : CX} {bytes : ByteArray} {ret : Option FieldType} {fr lo mc ms n1 : Nat} {post : Option Value → HP → Prop} {n k sl pc : Nat} {h : HP} {L : List (Option Value)} {st : List Value} (hX : Cx X RX4 bytes ret fr lo mc ms n1 post) {a : Nat} {fs : List Value} {v : Value} (hdg : decode bytes pc = .ok (.getfield 11, 3)) (hh : h a = some (cO 4 fs)) (hv : fs[0]? = some v) (kk : AW X n h k sl (pc + 3) L (v :: st)) : AW X n h k sl pc L (.ref a :: st) := aw_get hX 0 rfl (C := RX4) (T := TX4) (N := 5) rfl in_X4 kf_X4_11 (by decide) hh hv hdg kk
theorem pf_X4_11 {X : CX} {bytes : ByteArray} {ret : Option FieldType} {fr lo mc ms n1 : Nat} {post : Option Value → HP → Prop} {n k sl pc : Nat} {h : HP} {L : List (Option Value)} {st : List Value} (hX : Cx X RX4 bytes ret fr lo mc ms n1 post) (hini : X.2.2.2.2.2.2.2.2.1.name = "<init>") {a b : Nat} {fs : List Value} (hdg : decode bytes pc = .ok (.putfield 11, 3)) (hh : h a = some (cO 4 fs)) (hlen : 0 < fs.length) (kk : AW X n (hset h a (cO 4 (fs.set 0 (.ref b)))) k sl (pc + 3) L st) : AW X n h k sl pc L (.ref b :: .ref a :: st) := aw_putF hX 0 rfl (C := RX4) (T := TX4) (N := 5) (ty := .array .int) (v := .ref b) rfl in_X4 tyX4 tyX4_ok nmX4 kf_X4_11 (by decide) rfl hini rfl (by decide +kernel) rfl rfl hh hlen hdg kk
theorem kf_X4_17 : Cond.fieldLink RX4 17 (TX4 1).1 (TX4 1).2.1 (TX4 1).2.2.1 ∈ tbG := tb_at 276 (by decide +kernel) (by decide +kernel)
theorem gt_X4_17 {X : CX} {bytes : ByteArray} {ret : Option FieldType} {fr lo mc ms n1 : Nat} {post : Option Value → HP → Prop} {n k sl pc : Nat} {h : HP} {L : List (Option Value)} {st : List Value} (hX : Cx X RX4 bytes ret fr lo mc ms n1 post) {a : Nat} {fs : List Value} {v : Value} (hdg : decode bytes pc = .ok (.getfield 17, 3)) (hh : h a = some (cO 4 fs)) (hv : fs[1]? = some v) (kk : AW X n h k sl (pc + 3) L (v :: st)) : AW X n h k sl pc L (.ref a :: st) := aw_get hX 1 rfl (C := RX4) (T := TX4) (N := 5) rfl in_X4 kf_X4_17 (by decide) hh hv hdg kk
theorem pf_X4_17 {X : CX} {bytes : ByteArray} {ret : Option FieldType} {fr lo mc ms n1 : Nat} {post : Option Value → HP → Prop} {n k sl pc : Nat} {h : HP} {L : List (Option Value)} {st : List Value} (hX : Cx X RX4 bytes ret fr lo mc ms n1 post) (hini : X.2.2.2.2.2.2.2.2.1.name = "<init>") {a b : Nat} {fs : List Value} (hdg : decode bytes pc = .ok (.putfield 17, 3)) (hh : h a = some (cO 4 fs)) (hlen : 1 < fs.length) (kk : AW X n (hset h a (cO 4 (fs.set 1 (.ref b)))) k sl (pc + 3) L st) : AW X n h k sl pc L (.ref b :: .ref a :: st) := aw_putF hX 1 rfl (C := RX4) (T := TX4) (N := 5) (ty := .array (.array .int)) (v := .ref b) rfl in_X4 tyX4 tyX4_ok nmX4 kf_X4_17 (by decide) rfl hini rfl (by decide +kernel) rfl rfl hh hlen hdg kk
theorem kf_X4_20 : Cond.fieldLink RX4 20 (TX4 2).1 (TX4 2).2.1 (TX4 2).2.2.1 ∈ tbG := tb_at 277 (by decide +kernel) (by decide +kernel)
theorem gt_X4_20 {X : CX} {bytes : ByteArray} {ret : Option FieldType} {fr lo mc ms n1 : Nat} {post : Option Value → HP → Prop} {n k sl pc : Nat} {h : HP} {L : List (Option Value)} {st : List Value} (hX : Cx X RX4 bytes ret fr lo mc ms n1 post) {a : Nat} {fs : List Value} {v : Value} (hdg : decode bytes pc = .ok (.getfield 20, 3)) (hh : h a = some (cO 4 fs)) (hv : fs[2]? = some v) (kk : AW X n h k sl (pc + 3) L (v :: st)) : AW X n h k sl pc L (.ref a :: st) := aw_get hX 2 rfl (C := RX4) (T := TX4) (N := 5) rfl in_X4 kf_X4_20 (by decide) hh hv hdg kk
theorem pf_X4_20 {X : CX} {bytes : ByteArray} {ret : Option FieldType} {fr lo mc ms n1 : Nat} {post : Option Value → HP → Prop} {n k sl pc : Nat} {h : HP} {L : List (Option Value)} {st : List Value} (hX : Cx X RX4 bytes ret fr lo mc ms n1 post) (hini : X.2.2.2.2.2.2.2.2.1.name = "<init>") {a b : Nat} {fs : List Value} (hdg : decode bytes pc = .ok (.putfield 20, 3)) (hh : h a = some (cO 4 fs)) (hlen : 2 < fs.length) (kk : AW X n (hset h a (cO 4 (fs.set 2 (.ref b)))) k sl (pc + 3) L st) : AW X n h k sl pc L (.ref b :: .ref a :: st) := aw_putF hX 2 rfl (C := RX4) (T := TX4) (N := 5) (ty := .array (.array .int)) (v := .ref b) rfl in_X4 tyX4 tyX4_ok nmX4 kf_X4_20 (by decide) rfl hini rfl (by decide +kernel) rfl rfl hh hlen hdg kk
theorem kf_X4_23 : Cond.fieldLink RX4 23 (TX4 3).1 (TX4 3).2.1 (TX4 3).2.2.1 ∈ tbG := tb_at 278 (by decide +kernel) (by decide +kernel)
theorem gt_X4_23 {X : CX} {bytes : ByteArray} {ret : Option FieldType} {fr lo mc ms n1 : Nat} {post : Option Value → HP → Prop} {n k sl pc : Nat} {h : HP} {L : List (Option Value)} {st : List Value} (hX : Cx X RX4 bytes ret fr lo mc ms n1 post) {a : Nat} {fs : List Value} {v : Value} (hdg : decode bytes pc = .ok (.getfield 23, 3)) (hh : h a = some (cO 4 fs)) (hv : fs[3]? = some v) (kk : AW X n h k sl (pc + 3) L (v :: st)) : AW X n h k sl pc L (.ref a :: st) := aw_get hX 3 rfl (C := RX4) (T := TX4) (N := 5) rfl in_X4 kf_X4_23 (by decide) hh hv hdg kk
theorem pf_X4_23 {X : CX} {bytes : ByteArray} {ret : Option FieldType} {fr lo mc ms n1 : Nat} {post : Option Value → HP → Prop} {n k sl pc : Nat} {h : HP} {L : List (Option Value)} {st : List Value} (hX : Cx X RX4 bytes ret fr lo mc ms n1 post) (hini : X.2.2.2.2.2.2.2.2.1.name = "<init>") {a b : Nat} {fs : List Value} (hdg : decode bytes pc = .ok (.putfield 23, 3)) (hh : h a = some (cO 4 fs)) (hlen : 3 < fs.length) (kk : AW X n (hset h a (cO 4 (fs.set 3 (.ref b)))) k sl (pc + 3) L st) : AW X n h k sl pc L (.ref b :: .ref a :: st) := aw_putF hX 3 rfl (C := RX4) (T := TX4) (N := 5) (ty := .array (.array .int)) (v := .ref b) rfl in_X4 tyX4 tyX4_ok nmX4 kf_X4_23 (by decide) rfl hini rfl (by decide +kernel) rfl rfl hh hlen hdg kk
theorem kf_X4_26 : Cond.fieldLink RX4 26 (TX4 4).1 (TX4 4).2.1 (TX4 4).2.2.1 ∈ tbG := tb_at 279 (by decide +kernel) (by decide +kernel)
theorem gt_X4_26 {X : CX} {bytes : ByteArray} {ret : Option FieldType} {fr lo mc ms n1 : Nat} {post : Option Value → HP → Prop} {n k sl pc : Nat} {h : HP} {L : List (Option Value)} {st : List Value} (hX : Cx X RX4 bytes ret fr lo mc ms n1 post) {a : Nat} {fs : List Value} {v : Value} (hdg : decode bytes pc = .ok (.getfield 26, 3)) (hh : h a = some (cO 4 fs)) (hv : fs[4]? = some v) (kk : AW X n h k sl (pc + 3) L (v :: st)) : AW X n h k sl pc L (.ref a :: st) := aw_get hX 4 rfl (C := RX4) (T := TX4) (N := 5) rfl in_X4 kf_X4_26 (by decide) hh hv hdg kk
theorem pt_X4_26 {X : CX} {bytes : ByteArray} {ret : Option FieldType} {fr lo mc ms n1 : Nat} {post : Option Value → HP → Prop} {n k sl pc : Nat} {h : HP} {L : List (Option Value)} {st : List Value} (hX : Cx X RX4 bytes ret fr lo mc ms n1 post) {a : Nat} {fs : List Value} {v : Int32} (hdg : decode bytes pc = .ok (.putfield 26, 3)) (hh : h a = some (cO 4 fs)) (hlen : 4 < fs.length) (kk : AW X n (hset h a (cO 4 (fs.set 4 (.int v)))) k sl (pc + 3) L st) : AW X n h k sl pc L (.int v :: .ref a :: st) := aw_put hX 4 rfl (C := RX4) (T := TX4) (N := 5) (ty := .int) rfl in_X4 tyX4 tyX4_ok nmX4 kf_X4_26 (by decide) rfl (by decide +kernel) rfl rfl hh hlen hdg kk
theorem kf_X9_10 : Cond.fieldLink RX9 10 (TX9 0).1 (TX9 0).2.1 (TX9 0).2.2.1 ∈ tbG := tb_at 291 (by decide +kernel) (by decide +kernel)
theorem gt_X9_10 {X : CX} {bytes : ByteArray} {ret : Option FieldType} {fr lo mc ms n1 : Nat} {post : Option Value → HP → Prop} {n k sl pc : Nat} {h : HP} {L : List (Option Value)} {st : List Value} (hX : Cx X RX9 bytes ret fr lo mc ms n1 post) {a : Nat} {fs : List Value} {v : Value} (hdg : decode bytes pc = .ok (.getfield 10, 3)) (hh : h a = some (cO 9 fs)) (hv : fs[0]? = some v) (kk : AW X n h k sl (pc + 3) L (v :: st)) : AW X n h k sl pc L (.ref a :: st) := aw_get hX 0 rfl (C := RX9) (T := TX9) (N := 9) rfl in_X9 kf_X9_10 (by decide) hh hv hdg kk
theorem pf_X9_10 {X : CX} {bytes : ByteArray} {ret : Option FieldType} {fr lo mc ms n1 : Nat} {post : Option Value → HP → Prop} {n k sl pc : Nat} {h : HP} {L : List (Option Value)} {st : List Value} (hX : Cx X RX9 bytes ret fr lo mc ms n1 post) (hini : X.2.2.2.2.2.2.2.2.1.name = "<init>") {a b : Nat} {fs : List Value} (hdg : decode bytes pc = .ok (.putfield 10, 3)) (hh : h a = some (cO 9 fs)) (hlen : 0 < fs.length) (kk : AW X n (hset h a (cO 9 (fs.set 0 (.ref b)))) k sl (pc + 3) L st) : AW X n h k sl pc L (.ref b :: .ref a :: st) := aw_putF hX 0 rfl (C := RX9) (T := TX9) (N := 9) (ty := .object "FlipBoard$State") (v := .ref b) rfl in_X9 tyX9 tyX9_ok nmX9 kf_X9_10 (by decide) rfl hini rfl (by decide +kernel) rfl rfl hh hlen hdg kk
theorem kf_X9_16 : Cond.fieldLink RX9 16 (TX9 1).1 (TX9 1).2.1 (TX9 1).2.2.1 ∈ tbG := tb_at 292 (by decide +kernel) (by decide +kernel)
theorem gt_X9_16 {X : CX} {bytes : ByteArray} {ret : Option FieldType} {fr lo mc ms n1 : Nat} {post : Option Value → HP → Prop} {n k sl pc : Nat} {h : HP} {L : List (Option Value)} {st : List Value} (hX : Cx X RX9 bytes ret fr lo mc ms n1 post) {a : Nat} {fs : List Value} {v : Value} (hdg : decode bytes pc = .ok (.getfield 16, 3)) (hh : h a = some (cO 9 fs)) (hv : fs[1]? = some v) (kk : AW X n h k sl (pc + 3) L (v :: st)) : AW X n h k sl pc L (.ref a :: st) := aw_get hX 1 rfl (C := RX9) (T := TX9) (N := 9) rfl in_X9 kf_X9_16 (by decide) hh hv hdg kk
theorem pf_X9_16 {X : CX} {bytes : ByteArray} {ret : Option FieldType} {fr lo mc ms n1 : Nat} {post : Option Value → HP → Prop} {n k sl pc : Nat} {h : HP} {L : List (Option Value)} {st : List Value} (hX : Cx X RX9 bytes ret fr lo mc ms n1 post) (hini : X.2.2.2.2.2.2.2.2.1.name = "<init>") {a b : Nat} {fs : List Value} (hdg : decode bytes pc = .ok (.putfield 16, 3)) (hh : h a = some (cO 9 fs)) (hlen : 1 < fs.length) (kk : AW X n (hset h a (cO 9 (fs.set 1 (.ref b)))) k sl (pc + 3) L st) : AW X n h k sl pc L (.ref b :: .ref a :: st) := aw_putF hX 1 rfl (C := RX9) (T := TX9) (N := 9) (ty := .object "FlipBoard$State") (v := .ref b) rfl in_X9 tyX9 tyX9_ok nmX9 kf_X9_16 (by decide) rfl hini rfl (by decide +kernel) rfl rfl hh hlen hdg kk
theorem kf_X9_22 : Cond.fieldLink RX9 22 (TX9 2).1 (TX9 2).2.1 (TX9 2).2.2.1 ∈ tbG := tb_at 293 (by decide +kernel) (by decide +kernel)
theorem gt_X9_22 {X : CX} {bytes : ByteArray} {ret : Option FieldType} {fr lo mc ms n1 : Nat} {post : Option Value → HP → Prop} {n k sl pc : Nat} {h : HP} {L : List (Option Value)} {st : List Value} (hX : Cx X RX9 bytes ret fr lo mc ms n1 post) {a : Nat} {fs : List Value} {v : Value} (hdg : decode bytes pc = .ok (.getfield 22, 3)) (hh : h a = some (cO 9 fs)) (hv : fs[2]? = some v) (kk : AW X n h k sl (pc + 3) L (v :: st)) : AW X n h k sl pc L (.ref a :: st) := aw_get hX 2 rfl (C := RX9) (T := TX9) (N := 9) rfl in_X9 kf_X9_22 (by decide) hh hv hdg kk
theorem pf_X9_22 {X : CX} {bytes : ByteArray} {ret : Option FieldType} {fr lo mc ms n1 : Nat} {post : Option Value → HP → Prop} {n k sl pc : Nat} {h : HP} {L : List (Option Value)} {st : List Value} (hX : Cx X RX9 bytes ret fr lo mc ms n1 post) (hini : X.2.2.2.2.2.2.2.2.1.name = "<init>") {a b : Nat} {fs : List Value} (hdg : decode bytes pc = .ok (.putfield 22, 3)) (hh : h a = some (cO 9 fs)) (hlen : 2 < fs.length) (kk : AW X n (hset h a (cO 9 (fs.set 2 (.ref b)))) k sl (pc + 3) L st) : AW X n h k sl pc L (.ref b :: .ref a :: st) := aw_putF hX 2 rfl (C := RX9) (T := TX9) (N := 9) (ty := .object "FlipBoard$History") (v := .ref b) rfl in_X9 tyX9 tyX9_ok nmX9 kf_X9_22 (by decide) rfl hini rfl (by decide +kernel) rfl rfl hh hlen hdg kk
theorem kf_X9_29 : Cond.fieldLink RX9 29 (TX9 3).1 (TX9 3).2.1 (TX9 3).2.2.1 ∈ tbG := tb_at 294 (by decide +kernel) (by decide +kernel)
theorem gt_X9_29 {X : CX} {bytes : ByteArray} {ret : Option FieldType} {fr lo mc ms n1 : Nat} {post : Option Value → HP → Prop} {n k sl pc : Nat} {h : HP} {L : List (Option Value)} {st : List Value} (hX : Cx X RX9 bytes ret fr lo mc ms n1 post) {a : Nat} {fs : List Value} {v : Value} (hdg : decode bytes pc = .ok (.getfield 29, 3)) (hh : h a = some (cO 9 fs)) (hv : fs[3]? = some v) (kk : AW X n h k sl (pc + 3) L (v :: st)) : AW X n h k sl pc L (.ref a :: st) := aw_get hX 3 rfl (C := RX9) (T := TX9) (N := 9) rfl in_X9 kf_X9_29 (by decide) hh hv hdg kk
theorem pf_X9_29 {X : CX} {bytes : ByteArray} {ret : Option FieldType} {fr lo mc ms n1 : Nat} {post : Option Value → HP → Prop} {n k sl pc : Nat} {h : HP} {L : List (Option Value)} {st : List Value} (hX : Cx X RX9 bytes ret fr lo mc ms n1 post) (hini : X.2.2.2.2.2.2.2.2.1.name = "<init>") {a b : Nat} {fs : List Value} (hdg : decode bytes pc = .ok (.putfield 29, 3)) (hh : h a = some (cO 9 fs)) (hlen : 3 < fs.length) (kk : AW X n (hset h a (cO 9 (fs.set 3 (.ref b)))) k sl (pc + 3) L st) : AW X n h k sl pc L (.ref b :: .ref a :: st) := aw_putF hX 3 rfl (C := RX9) (T := TX9) (N := 9) (ty := .object "FlipBoard$Painter") (v := .ref b) rfl in_X9 tyX9 tyX9_ok nmX9 kf_X9_29 (by decide) rfl hini rfl (by decide +kernel) rfl rfl hh hlen hdg kk
theorem kf_X9_36 : Cond.fieldLink RX9 36 (TX9 4).1 (TX9 4).2.1 (TX9 4).2.2.1 ∈ tbG := tb_at 295 (by decide +kernel) (by decide +kernel)
theorem gt_X9_36 {X : CX} {bytes : ByteArray} {ret : Option FieldType} {fr lo mc ms n1 : Nat} {post : Option Value → HP → Prop} {n k sl pc : Nat} {h : HP} {L : List (Option Value)} {st : List Value} (hX : Cx X RX9 bytes ret fr lo mc ms n1 post) {a : Nat} {fs : List Value} {v : Value} (hdg : decode bytes pc = .ok (.getfield 36, 3)) (hh : h a = some (cO 9 fs)) (hv : fs[4]? = some v) (kk : AW X n h k sl (pc + 3) L (v :: st)) : AW X n h k sl pc L (.ref a :: st) := aw_get hX 4 rfl (C := RX9) (T := TX9) (N := 9) rfl in_X9 kf_X9_36 (by decide) hh hv hdg kk
theorem pf_X9_36 {X : CX} {bytes : ByteArray} {ret : Option FieldType} {fr lo mc ms n1 : Nat} {post : Option Value → HP → Prop} {n k sl pc : Nat} {h : HP} {L : List (Option Value)} {st : List Value} (hX : Cx X RX9 bytes ret fr lo mc ms n1 post) (hini : X.2.2.2.2.2.2.2.2.1.name = "<init>") {a b : Nat} {fs : List Value} (hdg : decode bytes pc = .ok (.putfield 36, 3)) (hh : h a = some (cO 9 fs)) (hlen : 4 < fs.length) (kk : AW X n (hset h a (cO 9 (fs.set 4 (.ref b)))) k sl (pc + 3) L st) : AW X n h k sl pc L (.ref b :: .ref a :: st) := aw_putF hX 4 rfl (C := RX9) (T := TX9) (N := 9) (ty := .object "FlipBoard$Flipper") (v := .ref b) rfl in_X9 tyX9 tyX9_ok nmX9 kf_X9_36 (by decide) rfl hini rfl (by decide +kernel) rfl rfl hh hlen hdg kk
theorem kf_X9_43 : Cond.fieldLink RX9 43 (TX9 5).1 (TX9 5).2.1 (TX9 5).2.2.1 ∈ tbG := tb_at 296 (by decide +kernel) (by decide +kernel)
theorem gt_X9_43 {X : CX} {bytes : ByteArray} {ret : Option FieldType} {fr lo mc ms n1 : Nat} {post : Option Value → HP → Prop} {n k sl pc : Nat} {h : HP} {L : List (Option Value)} {st : List Value} (hX : Cx X RX9 bytes ret fr lo mc ms n1 post) {a : Nat} {fs : List Value} {v : Value} (hdg : decode bytes pc = .ok (.getfield 43, 3)) (hh : h a = some (cO 9 fs)) (hv : fs[5]? = some v) (kk : AW X n h k sl (pc + 3) L (v :: st)) : AW X n h k sl pc L (.ref a :: st) := aw_get hX 5 rfl (C := RX9) (T := TX9) (N := 9) rfl in_X9 kf_X9_43 (by decide) hh hv hdg kk
theorem pf_X9_43 {X : CX} {bytes : ByteArray} {ret : Option FieldType} {fr lo mc ms n1 : Nat} {post : Option Value → HP → Prop} {n k sl pc : Nat} {h : HP} {L : List (Option Value)} {st : List Value} (hX : Cx X RX9 bytes ret fr lo mc ms n1 post) (hini : X.2.2.2.2.2.2.2.2.1.name = "<init>") {a b : Nat} {fs : List Value} (hdg : decode bytes pc = .ok (.putfield 43, 3)) (hh : h a = some (cO 9 fs)) (hlen : 5 < fs.length) (kk : AW X n (hset h a (cO 9 (fs.set 5 (.ref b)))) k sl (pc + 3) L st) : AW X n h k sl pc L (.ref b :: .ref a :: st) := aw_putF hX 5 rfl (C := RX9) (T := TX9) (N := 9) (ty := .object "FlipBoard$Reader") (v := .ref b) rfl in_X9 tyX9 tyX9_ok nmX9 kf_X9_43 (by decide) rfl hini rfl (by decide +kernel) rfl rfl hh hlen hdg kk
theorem kf_X9_50 : Cond.fieldLink RX9 50 (TX9 6).1 (TX9 6).2.1 (TX9 6).2.2.1 ∈ tbG := tb_at 297 (by decide +kernel) (by decide +kernel)
theorem gt_X9_50 {X : CX} {bytes : ByteArray} {ret : Option FieldType} {fr lo mc ms n1 : Nat} {post : Option Value → HP → Prop} {n k sl pc : Nat} {h : HP} {L : List (Option Value)} {st : List Value} (hX : Cx X RX9 bytes ret fr lo mc ms n1 post) {a : Nat} {fs : List Value} {v : Value} (hdg : decode bytes pc = .ok (.getfield 50, 3)) (hh : h a = some (cO 9 fs)) (hv : fs[6]? = some v) (kk : AW X n h k sl (pc + 3) L (v :: st)) : AW X n h k sl pc L (.ref a :: st) := aw_get hX 6 rfl (C := RX9) (T := TX9) (N := 9) rfl in_X9 kf_X9_50 (by decide) hh hv hdg kk
theorem pf_X9_50 {X : CX} {bytes : ByteArray} {ret : Option FieldType} {fr lo mc ms n1 : Nat} {post : Option Value → HP → Prop} {n k sl pc : Nat} {h : HP} {L : List (Option Value)} {st : List Value} (hX : Cx X RX9 bytes ret fr lo mc ms n1 post) (hini : X.2.2.2.2.2.2.2.2.1.name = "<init>") {a b : Nat} {fs : List Value} (hdg : decode bytes pc = .ok (.putfield 50, 3)) (hh : h a = some (cO 9 fs)) (hlen : 6 < fs.length) (kk : AW X n (hset h a (cO 9 (fs.set 6 (.ref b)))) k sl (pc + 3) L st) : AW X n h k sl pc L (.ref b :: .ref a :: st) := aw_putF hX 6 rfl (C := RX9) (T := TX9) (N := 9) (ty := .object "FlipBoard$Orders") (v := .ref b) rfl in_X9 tyX9 tyX9_ok nmX9 kf_X9_50 (by decide) rfl hini rfl (by decide +kernel) rfl rfl hh hlen hdg kk
theorem kf_X9_54 : Cond.fieldLink RX9 54 (TX9 7).1 (TX9 7).2.1 (TX9 7).2.2.1 ∈ tbG := tb_at 298 (by decide +kernel) (by decide +kernel)
theorem gt_X9_54 {X : CX} {bytes : ByteArray} {ret : Option FieldType} {fr lo mc ms n1 : Nat} {post : Option Value → HP → Prop} {n k sl pc : Nat} {h : HP} {L : List (Option Value)} {st : List Value} (hX : Cx X RX9 bytes ret fr lo mc ms n1 post) {a : Nat} {fs : List Value} {v : Value} (hdg : decode bytes pc = .ok (.getfield 54, 3)) (hh : h a = some (cO 9 fs)) (hv : fs[7]? = some v) (kk : AW X n h k sl (pc + 3) L (v :: st)) : AW X n h k sl pc L (.ref a :: st) := aw_get hX 7 rfl (C := RX9) (T := TX9) (N := 9) rfl in_X9 kf_X9_54 (by decide) hh hv hdg kk
theorem pf_X9_54 {X : CX} {bytes : ByteArray} {ret : Option FieldType} {fr lo mc ms n1 : Nat} {post : Option Value → HP → Prop} {n k sl pc : Nat} {h : HP} {L : List (Option Value)} {st : List Value} (hX : Cx X RX9 bytes ret fr lo mc ms n1 post) (hini : X.2.2.2.2.2.2.2.2.1.name = "<init>") {a b : Nat} {fs : List Value} (hdg : decode bytes pc = .ok (.putfield 54, 3)) (hh : h a = some (cO 9 fs)) (hlen : 7 < fs.length) (kk : AW X n (hset h a (cO 9 (fs.set 7 (.ref b)))) k sl (pc + 3) L st) : AW X n h k sl pc L (.ref b :: .ref a :: st) := aw_putF hX 7 rfl (C := RX9) (T := TX9) (N := 9) (ty := .array .int) (v := .ref b) rfl in_X9 tyX9 tyX9_ok nmX9 kf_X9_54 (by decide) rfl hini rfl (by decide +kernel) rfl rfl hh hlen hdg kk
theorem kf_X9_58 : Cond.fieldLink RX9 58 (TX9 8).1 (TX9 8).2.1 (TX9 8).2.2.1 ∈ tbG := tb_at 299 (by decide +kernel) (by decide +kernel)
theorem gt_X9_58 {X : CX} {bytes : ByteArray} {ret : Option FieldType} {fr lo mc ms n1 : Nat} {post : Option Value → HP → Prop} {n k sl pc : Nat} {h : HP} {L : List (Option Value)} {st : List Value} (hX : Cx X RX9 bytes ret fr lo mc ms n1 post) {a : Nat} {fs : List Value} {v : Value} (hdg : decode bytes pc = .ok (.getfield 58, 3)) (hh : h a = some (cO 9 fs)) (hv : fs[8]? = some v) (kk : AW X n h k sl (pc + 3) L (v :: st)) : AW X n h k sl pc L (.ref a :: st) := aw_get hX 8 rfl (C := RX9) (T := TX9) (N := 9) rfl in_X9 kf_X9_58 (by decide) hh hv hdg kk
theorem pt_X9_58 {X : CX} {bytes : ByteArray} {ret : Option FieldType} {fr lo mc ms n1 : Nat} {post : Option Value → HP → Prop} {n k sl pc : Nat} {h : HP} {L : List (Option Value)} {st : List Value} (hX : Cx X RX9 bytes ret fr lo mc ms n1 post) {a : Nat} {fs : List Value} {v : Int32} (hdg : decode bytes pc = .ok (.putfield 58, 3)) (hh : h a = some (cO 9 fs)) (hlen : 8 < fs.length) (kk : AW X n (hset h a (cO 9 (fs.set 8 (.int v)))) k sl (pc + 3) L st) : AW X n h k sl pc L (.int v :: .ref a :: st) := aw_put hX 8 rfl (C := RX9) (T := TX9) (N := 9) (ty := .int) rfl in_X9 tyX9 tyX9_ok nmX9 kf_X9_58 (by decide) rfl (by decide +kernel) rfl rfl hh hlen hdg kk
theorem kf_X9_91 : Cond.fieldLink RX9 91 RX9 "LEAST_NUMBERS" "[I" ∈ tbG := tb_at 382 (by decide +kernel) (by decide +kernel)
theorem kf_X9_94 : Cond.fieldLink RX9 94 RX9 "MOST_NUMBERS" "[I" ∈ tbG := tb_at 384 (by decide +kernel) (by decide +kernel)
theorem kf_X10_7 : Cond.fieldLink RX10 7 (TX10 0).1 (TX10 0).2.1 (TX10 0).2.2.1 ∈ tbG := tb_at 782 (by decide +kernel) (by decide +kernel)
theorem gt_X10_7 {X : CX} {bytes : ByteArray} {ret : Option FieldType} {fr lo mc ms n1 : Nat} {post : Option Value → HP → Prop} {n k sl pc : Nat} {h : HP} {L : List (Option Value)} {st : List Value} (hX : Cx X RX10 bytes ret fr lo mc ms n1 post) {a : Nat} {fs : List Value} {v : Value} (hdg : decode bytes pc = .ok (.getfield 7, 3)) (hh : h a = some (cO 10 fs)) (hv : fs[0]? = some v) (kk : AW X n h k sl (pc + 3) L (v :: st)) : AW X n h k sl pc L (.ref a :: st) := aw_get hX 0 rfl (C := RX10) (T := TX10) (N := 16) rfl in_X10 kf_X10_7 (by decide) hh hv hdg kk
theorem pf_X10_7 {X : CX} {bytes : ByteArray} {ret : Option FieldType} {fr lo mc ms n1 : Nat} {post : Option Value → HP → Prop} {n k sl pc : Nat} {h : HP} {L : List (Option Value)} {st : List Value} (hX : Cx X RX10 bytes ret fr lo mc ms n1 post) (hini : X.2.2.2.2.2.2.2.2.1.name = "<init>") {a b : Nat} {fs : List Value} (hdg : decode bytes pc = .ok (.putfield 7, 3)) (hh : h a = some (cO 10 fs)) (hlen : 0 < fs.length) (kk : AW X n (hset h a (cO 10 (fs.set 0 (.ref b)))) k sl (pc + 3) L st) : AW X n h k sl pc L (.ref b :: .ref a :: st) := aw_putF hX 0 rfl (C := RX10) (T := TX10) (N := 16) (ty := .array .int) (v := .ref b) rfl in_X10 tyX10 tyX10_ok nmX10 kf_X10_7 (by decide) rfl hini rfl (by decide +kernel) rfl rfl hh hlen hdg kk
theorem kf_X10_13 : Cond.fieldLink RX10 13 (TX10 1).1 (TX10 1).2.1 (TX10 1).2.2.1 ∈ tbG := tb_at 783 (by decide +kernel) (by decide +kernel)
theorem gt_X10_13 {X : CX} {bytes : ByteArray} {ret : Option FieldType} {fr lo mc ms n1 : Nat} {post : Option Value → HP → Prop} {n k sl pc : Nat} {h : HP} {L : List (Option Value)} {st : List Value} (hX : Cx X RX10 bytes ret fr lo mc ms n1 post) {a : Nat} {fs : List Value} {v : Value} (hdg : decode bytes pc = .ok (.getfield 13, 3)) (hh : h a = some (cO 10 fs)) (hv : fs[1]? = some v) (kk : AW X n h k sl (pc + 3) L (v :: st)) : AW X n h k sl pc L (.ref a :: st) := aw_get hX 1 rfl (C := RX10) (T := TX10) (N := 16) rfl in_X10 kf_X10_13 (by decide) hh hv hdg kk
theorem pf_X10_13 {X : CX} {bytes : ByteArray} {ret : Option FieldType} {fr lo mc ms n1 : Nat} {post : Option Value → HP → Prop} {n k sl pc : Nat} {h : HP} {L : List (Option Value)} {st : List Value} (hX : Cx X RX10 bytes ret fr lo mc ms n1 post) (hini : X.2.2.2.2.2.2.2.2.1.name = "<init>") {a b : Nat} {fs : List Value} (hdg : decode bytes pc = .ok (.putfield 13, 3)) (hh : h a = some (cO 10 fs)) (hlen : 1 < fs.length) (kk : AW X n (hset h a (cO 10 (fs.set 1 (.ref b)))) k sl (pc + 3) L st) : AW X n h k sl pc L (.ref b :: .ref a :: st) := aw_putF hX 1 rfl (C := RX10) (T := TX10) (N := 16) (ty := .array .int) (v := .ref b) rfl in_X10 tyX10 tyX10_ok nmX10 kf_X10_13 (by decide) rfl hini rfl (by decide +kernel) rfl rfl hh hlen hdg kk
theorem kf_X10_16 : Cond.fieldLink RX10 16 (TX10 2).1 (TX10 2).2.1 (TX10 2).2.2.1 ∈ tbG := tb_at 784 (by decide +kernel) (by decide +kernel)
theorem gt_X10_16 {X : CX} {bytes : ByteArray} {ret : Option FieldType} {fr lo mc ms n1 : Nat} {post : Option Value → HP → Prop} {n k sl pc : Nat} {h : HP} {L : List (Option Value)} {st : List Value} (hX : Cx X RX10 bytes ret fr lo mc ms n1 post) {a : Nat} {fs : List Value} {v : Value} (hdg : decode bytes pc = .ok (.getfield 16, 3)) (hh : h a = some (cO 10 fs)) (hv : fs[2]? = some v) (kk : AW X n h k sl (pc + 3) L (v :: st)) : AW X n h k sl pc L (.ref a :: st) := aw_get hX 2 rfl (C := RX10) (T := TX10) (N := 16) rfl in_X10 kf_X10_16 (by decide) hh hv hdg kk
theorem pf_X10_16 {X : CX} {bytes : ByteArray} {ret : Option FieldType} {fr lo mc ms n1 : Nat} {post : Option Value → HP → Prop} {n k sl pc : Nat} {h : HP} {L : List (Option Value)} {st : List Value} (hX : Cx X RX10 bytes ret fr lo mc ms n1 post) (hini : X.2.2.2.2.2.2.2.2.1.name = "<init>") {a b : Nat} {fs : List Value} (hdg : decode bytes pc = .ok (.putfield 16, 3)) (hh : h a = some (cO 10 fs)) (hlen : 2 < fs.length) (kk : AW X n (hset h a (cO 10 (fs.set 2 (.ref b)))) k sl (pc + 3) L st) : AW X n h k sl pc L (.ref b :: .ref a :: st) := aw_putF hX 2 rfl (C := RX10) (T := TX10) (N := 16) (ty := .array .int) (v := .ref b) rfl in_X10 tyX10 tyX10_ok nmX10 kf_X10_16 (by decide) rfl hini rfl (by decide +kernel) rfl rfl hh hlen hdg kk
theorem kf_X10_19 : Cond.fieldLink RX10 19 (TX10 3).1 (TX10 3).2.1 (TX10 3).2.2.1 ∈ tbG := tb_at 785 (by decide +kernel) (by decide +kernel)
theorem gt_X10_19 {X : CX} {bytes : ByteArray} {ret : Option FieldType} {fr lo mc ms n1 : Nat} {post : Option Value → HP → Prop} {n k sl pc : Nat} {h : HP} {L : List (Option Value)} {st : List Value} (hX : Cx X RX10 bytes ret fr lo mc ms n1 post) {a : Nat} {fs : List Value} {v : Value} (hdg : decode bytes pc = .ok (.getfield 19, 3)) (hh : h a = some (cO 10 fs)) (hv : fs[3]? = some v) (kk : AW X n h k sl (pc + 3) L (v :: st)) : AW X n h k sl pc L (.ref a :: st) := aw_get hX 3 rfl (C := RX10) (T := TX10) (N := 16) rfl in_X10 kf_X10_19 (by decide) hh hv hdg kk
theorem pf_X10_19 {X : CX} {bytes : ByteArray} {ret : Option FieldType} {fr lo mc ms n1 : Nat} {post : Option Value → HP → Prop} {n k sl pc : Nat} {h : HP} {L : List (Option Value)} {st : List Value} (hX : Cx X RX10 bytes ret fr lo mc ms n1 post) (hini : X.2.2.2.2.2.2.2.2.1.name = "<init>") {a b : Nat} {fs : List Value} (hdg : decode bytes pc = .ok (.putfield 19, 3)) (hh : h a = some (cO 10 fs)) (hlen : 3 < fs.length) (kk : AW X n (hset h a (cO 10 (fs.set 3 (.ref b)))) k sl (pc + 3) L st) : AW X n h k sl pc L (.ref b :: .ref a :: st) := aw_putF hX 3 rfl (C := RX10) (T := TX10) (N := 16) (ty := .array .int) (v := .ref b) rfl in_X10 tyX10 tyX10_ok nmX10 kf_X10_19 (by decide) rfl hini rfl (by decide +kernel) rfl rfl hh hlen hdg kk
theorem kf_X10_50 : Cond.fieldLink RX10 50 (TX10 4).1 (TX10 4).2.1 (TX10 4).2.2.1 ∈ tbG := tb_at 786 (by decide +kernel) (by decide +kernel)
theorem gt_X10_50 {X : CX} {bytes : ByteArray} {ret : Option FieldType} {fr lo mc ms n1 : Nat} {post : Option Value → HP → Prop} {n k sl pc : Nat} {h : HP} {L : List (Option Value)} {st : List Value} (hX : Cx X RX10 bytes ret fr lo mc ms n1 post) {a : Nat} {fs : List Value} {v : Value} (hdg : decode bytes pc = .ok (.getfield 50, 3)) (hh : h a = some (cO 10 fs)) (hv : fs[4]? = some v) (kk : AW X n h k sl (pc + 3) L (v :: st)) : AW X n h k sl pc L (.ref a :: st) := aw_get hX 4 rfl (C := RX10) (T := TX10) (N := 16) rfl in_X10 kf_X10_50 (by decide) hh hv hdg kk
theorem pt_X10_50 {X : CX} {bytes : ByteArray} {ret : Option FieldType} {fr lo mc ms n1 : Nat} {post : Option Value → HP → Prop} {n k sl pc : Nat} {h : HP} {L : List (Option Value)} {st : List Value} (hX : Cx X RX10 bytes ret fr lo mc ms n1 post) {a : Nat} {fs : List Value} {v : Int32} (hdg : decode bytes pc = .ok (.putfield 50, 3)) (hh : h a = some (cO 10 fs)) (hlen : 4 < fs.length) (kk : AW X n (hset h a (cO 10 (fs.set 4 (.int v)))) k sl (pc + 3) L st) : AW X n h k sl pc L (.int v :: .ref a :: st) := aw_put hX 4 rfl (C := RX10) (T := TX10) (N := 16) (ty := .int) rfl in_X10 tyX10 tyX10_ok nmX10 kf_X10_50 (by decide) rfl (by decide +kernel) rfl rfl hh hlen hdg kk
theorem kf_X10_22 : Cond.fieldLink RX10 22 (TX10 5).1 (TX10 5).2.1 (TX10 5).2.2.1 ∈ tbG := tb_at 787 (by decide +kernel) (by decide +kernel)
theorem gt_X10_22 {X : CX} {bytes : ByteArray} {ret : Option FieldType} {fr lo mc ms n1 : Nat} {post : Option Value → HP → Prop} {n k sl pc : Nat} {h : HP} {L : List (Option Value)} {st : List Value} (hX : Cx X RX10 bytes ret fr lo mc ms n1 post) {a : Nat} {fs : List Value} {v : Value} (hdg : decode bytes pc = .ok (.getfield 22, 3)) (hh : h a = some (cO 10 fs)) (hv : fs[5]? = some v) (kk : AW X n h k sl (pc + 3) L (v :: st)) : AW X n h k sl pc L (.ref a :: st) := aw_get hX 5 rfl (C := RX10) (T := TX10) (N := 16) rfl in_X10 kf_X10_22 (by decide) hh hv hdg kk
theorem pf_X10_22 {X : CX} {bytes : ByteArray} {ret : Option FieldType} {fr lo mc ms n1 : Nat} {post : Option Value → HP → Prop} {n k sl pc : Nat} {h : HP} {L : List (Option Value)} {st : List Value} (hX : Cx X RX10 bytes ret fr lo mc ms n1 post) (hini : X.2.2.2.2.2.2.2.2.1.name = "<init>") {a b : Nat} {fs : List Value} (hdg : decode bytes pc = .ok (.putfield 22, 3)) (hh : h a = some (cO 10 fs)) (hlen : 5 < fs.length) (kk : AW X n (hset h a (cO 10 (fs.set 5 (.ref b)))) k sl (pc + 3) L st) : AW X n h k sl pc L (.ref b :: .ref a :: st) := aw_putF hX 5 rfl (C := RX10) (T := TX10) (N := 16) (ty := .array .int) (v := .ref b) rfl in_X10 tyX10 tyX10_ok nmX10 kf_X10_22 (by decide) rfl hini rfl (by decide +kernel) rfl rfl hh hlen hdg kk
theorem kf_X10_113 : Cond.fieldLink RX10 113 (TX10 6).1 (TX10 6).2.1 (TX10 6).2.2.1 ∈ tbG := tb_at 788 (by decide +kernel) (by decide +kernel)
theorem gt_X10_113 {X : CX} {bytes : ByteArray} {ret : Option FieldType} {fr lo mc ms n1 : Nat} {post : Option Value → HP → Prop} {n k sl pc : Nat} {h : HP} {L : List (Option Value)} {st : List Value} (hX : Cx X RX10 bytes ret fr lo mc ms n1 post) {a : Nat} {fs : List Value} {v : Value} (hdg : decode bytes pc = .ok (.getfield 113, 3)) (hh : h a = some (cO 10 fs)) (hv : fs[6]? = some v) (kk : AW X n h k sl (pc + 3) L (v :: st)) : AW X n h k sl pc L (.ref a :: st) := aw_get hX 6 rfl (C := RX10) (T := TX10) (N := 16) rfl in_X10 kf_X10_113 (by decide) hh hv hdg kk
theorem pt_X10_113 {X : CX} {bytes : ByteArray} {ret : Option FieldType} {fr lo mc ms n1 : Nat} {post : Option Value → HP → Prop} {n k sl pc : Nat} {h : HP} {L : List (Option Value)} {st : List Value} (hX : Cx X RX10 bytes ret fr lo mc ms n1 post) {a : Nat} {fs : List Value} {v : Int32} (hdg : decode bytes pc = .ok (.putfield 113, 3)) (hh : h a = some (cO 10 fs)) (hlen : 6 < fs.length) (kk : AW X n (hset h a (cO 10 (fs.set 6 (.int v)))) k sl (pc + 3) L st) : AW X n h k sl pc L (.int v :: .ref a :: st) := aw_put hX 6 rfl (C := RX10) (T := TX10) (N := 16) (ty := .int) rfl in_X10 tyX10 tyX10_ok nmX10 kf_X10_113 (by decide) rfl (by decide +kernel) rfl rfl hh hlen hdg kk
theorem kf_X10_25 : Cond.fieldLink RX10 25 (TX10 7).1 (TX10 7).2.1 (TX10 7).2.2.1 ∈ tbG := tb_at 789 (by decide +kernel) (by decide +kernel)
theorem gt_X10_25 {X : CX} {bytes : ByteArray} {ret : Option FieldType} {fr lo mc ms n1 : Nat} {post : Option Value → HP → Prop} {n k sl pc : Nat} {h : HP} {L : List (Option Value)} {st : List Value} (hX : Cx X RX10 bytes ret fr lo mc ms n1 post) {a : Nat} {fs : List Value} {v : Value} (hdg : decode bytes pc = .ok (.getfield 25, 3)) (hh : h a = some (cO 10 fs)) (hv : fs[7]? = some v) (kk : AW X n h k sl (pc + 3) L (v :: st)) : AW X n h k sl pc L (.ref a :: st) := aw_get hX 7 rfl (C := RX10) (T := TX10) (N := 16) rfl in_X10 kf_X10_25 (by decide) hh hv hdg kk
theorem pf_X10_25 {X : CX} {bytes : ByteArray} {ret : Option FieldType} {fr lo mc ms n1 : Nat} {post : Option Value → HP → Prop} {n k sl pc : Nat} {h : HP} {L : List (Option Value)} {st : List Value} (hX : Cx X RX10 bytes ret fr lo mc ms n1 post) (hini : X.2.2.2.2.2.2.2.2.1.name = "<init>") {a b : Nat} {fs : List Value} (hdg : decode bytes pc = .ok (.putfield 25, 3)) (hh : h a = some (cO 10 fs)) (hlen : 7 < fs.length) (kk : AW X n (hset h a (cO 10 (fs.set 7 (.ref b)))) k sl (pc + 3) L st) : AW X n h k sl pc L (.ref b :: .ref a :: st) := aw_putF hX 7 rfl (C := RX10) (T := TX10) (N := 16) (ty := .array .int) (v := .ref b) rfl in_X10 tyX10 tyX10_ok nmX10 kf_X10_25 (by decide) rfl hini rfl (by decide +kernel) rfl rfl hh hlen hdg kk
theorem kf_X10_28 : Cond.fieldLink RX10 28 (TX10 8).1 (TX10 8).2.1 (TX10 8).2.2.1 ∈ tbG := tb_at 790 (by decide +kernel) (by decide +kernel)
theorem gt_X10_28 {X : CX} {bytes : ByteArray} {ret : Option FieldType} {fr lo mc ms n1 : Nat} {post : Option Value → HP → Prop} {n k sl pc : Nat} {h : HP} {L : List (Option Value)} {st : List Value} (hX : Cx X RX10 bytes ret fr lo mc ms n1 post) {a : Nat} {fs : List Value} {v : Value} (hdg : decode bytes pc = .ok (.getfield 28, 3)) (hh : h a = some (cO 10 fs)) (hv : fs[8]? = some v) (kk : AW X n h k sl (pc + 3) L (v :: st)) : AW X n h k sl pc L (.ref a :: st) := aw_get hX 8 rfl (C := RX10) (T := TX10) (N := 16) rfl in_X10 kf_X10_28 (by decide) hh hv hdg kk
theorem pf_X10_28 {X : CX} {bytes : ByteArray} {ret : Option FieldType} {fr lo mc ms n1 : Nat} {post : Option Value → HP → Prop} {n k sl pc : Nat} {h : HP} {L : List (Option Value)} {st : List Value} (hX : Cx X RX10 bytes ret fr lo mc ms n1 post) (hini : X.2.2.2.2.2.2.2.2.1.name = "<init>") {a b : Nat} {fs : List Value} (hdg : decode bytes pc = .ok (.putfield 28, 3)) (hh : h a = some (cO 10 fs)) (hlen : 8 < fs.length) (kk : AW X n (hset h a (cO 10 (fs.set 8 (.ref b)))) k sl (pc + 3) L st) : AW X n h k sl pc L (.ref b :: .ref a :: st) := aw_putF hX 8 rfl (C := RX10) (T := TX10) (N := 16) (ty := .array .int) (v := .ref b) rfl in_X10 tyX10 tyX10_ok nmX10 kf_X10_28 (by decide) rfl hini rfl (by decide +kernel) rfl rfl hh hlen hdg kk
theorem kf_X10_31 : Cond.fieldLink RX10 31 (TX10 9).1 (TX10 9).2.1 (TX10 9).2.2.1 ∈ tbG := tb_at 791 (by decide +kernel) (by decide +kernel)
theorem gt_X10_31 {X : CX} {bytes : ByteArray} {ret : Option FieldType} {fr lo mc ms n1 : Nat} {post : Option Value → HP → Prop} {n k sl pc : Nat} {h : HP} {L : List (Option Value)} {st : List Value} (hX : Cx X RX10 bytes ret fr lo mc ms n1 post) {a : Nat} {fs : List Value} {v : Value} (hdg : decode bytes pc = .ok (.getfield 31, 3)) (hh : h a = some (cO 10 fs)) (hv : fs[9]? = some v) (kk : AW X n h k sl (pc + 3) L (v :: st)) : AW X n h k sl pc L (.ref a :: st) := aw_get hX 9 rfl (C := RX10) (T := TX10) (N := 16) rfl in_X10 kf_X10_31 (by decide) hh hv hdg kk
theorem pf_X10_31 {X : CX} {bytes : ByteArray} {ret : Option FieldType} {fr lo mc ms n1 : Nat} {post : Option Value → HP → Prop} {n k sl pc : Nat} {h : HP} {L : List (Option Value)} {st : List Value} (hX : Cx X RX10 bytes ret fr lo mc ms n1 post) (hini : X.2.2.2.2.2.2.2.2.1.name = "<init>") {a b : Nat} {fs : List Value} (hdg : decode bytes pc = .ok (.putfield 31, 3)) (hh : h a = some (cO 10 fs)) (hlen : 9 < fs.length) (kk : AW X n (hset h a (cO 10 (fs.set 9 (.ref b)))) k sl (pc + 3) L st) : AW X n h k sl pc L (.ref b :: .ref a :: st) := aw_putF hX 9 rfl (C := RX10) (T := TX10) (N := 16) (ty := .array .int) (v := .ref b) rfl in_X10 tyX10 tyX10_ok nmX10 kf_X10_31 (by decide) rfl hini rfl (by decide +kernel) rfl rfl hh hlen hdg kk
theorem kf_X10_116 : Cond.fieldLink RX10 116 (TX10 10).1 (TX10 10).2.1 (TX10 10).2.2.1 ∈ tbG := tb_at 792 (by decide +kernel) (by decide +kernel)
theorem gt_X10_116 {X : CX} {bytes : ByteArray} {ret : Option FieldType} {fr lo mc ms n1 : Nat} {post : Option Value → HP → Prop} {n k sl pc : Nat} {h : HP} {L : List (Option Value)} {st : List Value} (hX : Cx X RX10 bytes ret fr lo mc ms n1 post) {a : Nat} {fs : List Value} {v : Value} (hdg : decode bytes pc = .ok (.getfield 116, 3)) (hh : h a = some (cO 10 fs)) (hv : fs[10]? = some v) (kk : AW X n h k sl (pc + 3) L (v :: st)) : AW X n h k sl pc L (.ref a :: st) := aw_get hX 10 rfl (C := RX10) (T := TX10) (N := 16) rfl in_X10 kf_X10_116 (by decide) hh hv hdg kk
theorem pt_X10_116 {X : CX} {bytes : ByteArray} {ret : Option FieldType} {fr lo mc ms n1 : Nat} {post : Option Value → HP → Prop} {n k sl pc : Nat} {h : HP} {L : List (Option Value)} {st : List Value} (hX : Cx X RX10 bytes ret fr lo mc ms n1 post) {a : Nat} {fs : List Value} {v : Int32} (hdg : decode bytes pc = .ok (.putfield 116, 3)) (hh : h a = some (cO 10 fs)) (hlen : 10 < fs.length) (kk : AW X n (hset h a (cO 10 (fs.set 10 (.int v)))) k sl (pc + 3) L st) : AW X n h k sl pc L (.int v :: .ref a :: st) := aw_put hX 10 rfl (C := RX10) (T := TX10) (N := 16) (ty := .int) rfl in_X10 tyX10 tyX10_ok nmX10 kf_X10_116 (by decide) rfl (by decide +kernel) rfl rfl hh hlen hdg kk
theorem kf_X10_34 : Cond.fieldLink RX10 34 (TX10 11).1 (TX10 11).2.1 (TX10 11).2.2.1 ∈ tbG := tb_at 793 (by decide +kernel) (by decide +kernel)
theorem gt_X10_34 {X : CX} {bytes : ByteArray} {ret : Option FieldType} {fr lo mc ms n1 : Nat} {post : Option Value → HP → Prop} {n k sl pc : Nat} {h : HP} {L : List (Option Value)} {st : List Value} (hX : Cx X RX10 bytes ret fr lo mc ms n1 post) {a : Nat} {fs : List Value} {v : Value} (hdg : decode bytes pc = .ok (.getfield 34, 3)) (hh : h a = some (cO 10 fs)) (hv : fs[11]? = some v) (kk : AW X n h k sl (pc + 3) L (v :: st)) : AW X n h k sl pc L (.ref a :: st) := aw_get hX 11 rfl (C := RX10) (T := TX10) (N := 16) rfl in_X10 kf_X10_34 (by decide) hh hv hdg kk
theorem pf_X10_34 {X : CX} {bytes : ByteArray} {ret : Option FieldType} {fr lo mc ms n1 : Nat} {post : Option Value → HP → Prop} {n k sl pc : Nat} {h : HP} {L : List (Option Value)} {st : List Value} (hX : Cx X RX10 bytes ret fr lo mc ms n1 post) (hini : X.2.2.2.2.2.2.2.2.1.name = "<init>") {a b : Nat} {fs : List Value} (hdg : decode bytes pc = .ok (.putfield 34, 3)) (hh : h a = some (cO 10 fs)) (hlen : 11 < fs.length) (kk : AW X n (hset h a (cO 10 (fs.set 11 (.ref b)))) k sl (pc + 3) L st) : AW X n h k sl pc L (.ref b :: .ref a :: st) := aw_putF hX 11 rfl (C := RX10) (T := TX10) (N := 16) (ty := .array .int) (v := .ref b) rfl in_X10 tyX10 tyX10_ok nmX10 kf_X10_34 (by decide) rfl hini rfl (by decide +kernel) rfl rfl hh hlen hdg kk
theorem kf_X10_37 : Cond.fieldLink RX10 37 (TX10 12).1 (TX10 12).2.1 (TX10 12).2.2.1 ∈ tbG := tb_at 794 (by decide +kernel) (by decide +kernel)
theorem gt_X10_37 {X : CX} {bytes : ByteArray} {ret : Option FieldType} {fr lo mc ms n1 : Nat} {post : Option Value → HP → Prop} {n k sl pc : Nat} {h : HP} {L : List (Option Value)} {st : List Value} (hX : Cx X RX10 bytes ret fr lo mc ms n1 post) {a : Nat} {fs : List Value} {v : Value} (hdg : decode bytes pc = .ok (.getfield 37, 3)) (hh : h a = some (cO 10 fs)) (hv : fs[12]? = some v) (kk : AW X n h k sl (pc + 3) L (v :: st)) : AW X n h k sl pc L (.ref a :: st) := aw_get hX 12 rfl (C := RX10) (T := TX10) (N := 16) rfl in_X10 kf_X10_37 (by decide) hh hv hdg kk
theorem pf_X10_37 {X : CX} {bytes : ByteArray} {ret : Option FieldType} {fr lo mc ms n1 : Nat} {post : Option Value → HP → Prop} {n k sl pc : Nat} {h : HP} {L : List (Option Value)} {st : List Value} (hX : Cx X RX10 bytes ret fr lo mc ms n1 post) (hini : X.2.2.2.2.2.2.2.2.1.name = "<init>") {a b : Nat} {fs : List Value} (hdg : decode bytes pc = .ok (.putfield 37, 3)) (hh : h a = some (cO 10 fs)) (hlen : 12 < fs.length) (kk : AW X n (hset h a (cO 10 (fs.set 12 (.ref b)))) k sl (pc + 3) L st) : AW X n h k sl pc L (.ref b :: .ref a :: st) := aw_putF hX 12 rfl (C := RX10) (T := TX10) (N := 16) (ty := .array .int) (v := .ref b) rfl in_X10 tyX10 tyX10_ok nmX10 kf_X10_37 (by decide) rfl hini rfl (by decide +kernel) rfl rfl hh hlen hdg kk
theorem kf_X10_163 : Cond.fieldLink RX10 163 (TX10 13).1 (TX10 13).2.1 (TX10 13).2.2.1 ∈ tbG := tb_at 795 (by decide +kernel) (by decide +kernel)
theorem gt_X10_163 {X : CX} {bytes : ByteArray} {ret : Option FieldType} {fr lo mc ms n1 : Nat} {post : Option Value → HP → Prop} {n k sl pc : Nat} {h : HP} {L : List (Option Value)} {st : List Value} (hX : Cx X RX10 bytes ret fr lo mc ms n1 post) {a : Nat} {fs : List Value} {v : Value} (hdg : decode bytes pc = .ok (.getfield 163, 3)) (hh : h a = some (cO 10 fs)) (hv : fs[13]? = some v) (kk : AW X n h k sl (pc + 3) L (v :: st)) : AW X n h k sl pc L (.ref a :: st) := aw_get hX 13 rfl (C := RX10) (T := TX10) (N := 16) rfl in_X10 kf_X10_163 (by decide) hh hv hdg kk
theorem pt_X10_163 {X : CX} {bytes : ByteArray} {ret : Option FieldType} {fr lo mc ms n1 : Nat} {post : Option Value → HP → Prop} {n k sl pc : Nat} {h : HP} {L : List (Option Value)} {st : List Value} (hX : Cx X RX10 bytes ret fr lo mc ms n1 post) {a : Nat} {fs : List Value} {v : Int32} (hdg : decode bytes pc = .ok (.putfield 163, 3)) (hh : h a = some (cO 10 fs)) (hlen : 13 < fs.length) (kk : AW X n (hset h a (cO 10 (fs.set 13 (.int v)))) k sl (pc + 3) L st) : AW X n h k sl pc L (.int v :: .ref a :: st) := aw_put hX 13 rfl (C := RX10) (T := TX10) (N := 16) (ty := .int) rfl in_X10 tyX10 tyX10_ok nmX10 kf_X10_163 (by decide) rfl (by decide +kernel) rfl rfl hh hlen hdg kk
theorem kf_X10_40 : Cond.fieldLink RX10 40 (TX10 14).1 (TX10 14).2.1 (TX10 14).2.2.1 ∈ tbG := tb_at 796 (by decide +kernel) (by decide +kernel)
theorem gt_X10_40 {X : CX} {bytes : ByteArray} {ret : Option FieldType} {fr lo mc ms n1 : Nat} {post : Option Value → HP → Prop} {n k sl pc : Nat} {h : HP} {L : List (Option Value)} {st : List Value} (hX : Cx X RX10 bytes ret fr lo mc ms n1 post) {a : Nat} {fs : List Value} {v : Value} (hdg : decode bytes pc = .ok (.getfield 40, 3)) (hh : h a = some (cO 10 fs)) (hv : fs[14]? = some v) (kk : AW X n h k sl (pc + 3) L (v :: st)) : AW X n h k sl pc L (.ref a :: st) := aw_get hX 14 rfl (C := RX10) (T := TX10) (N := 16) rfl in_X10 kf_X10_40 (by decide) hh hv hdg kk
theorem pf_X10_40 {X : CX} {bytes : ByteArray} {ret : Option FieldType} {fr lo mc ms n1 : Nat} {post : Option Value → HP → Prop} {n k sl pc : Nat} {h : HP} {L : List (Option Value)} {st : List Value} (hX : Cx X RX10 bytes ret fr lo mc ms n1 post) (hini : X.2.2.2.2.2.2.2.2.1.name = "<init>") {a b : Nat} {fs : List Value} (hdg : decode bytes pc = .ok (.putfield 40, 3)) (hh : h a = some (cO 10 fs)) (hlen : 14 < fs.length) (kk : AW X n (hset h a (cO 10 (fs.set 14 (.ref b)))) k sl (pc + 3) L st) : AW X n h k sl pc L (.ref b :: .ref a :: st) := aw_putF hX 14 rfl (C := RX10) (T := TX10) (N := 16) (ty := .array .int) (v := .ref b) rfl in_X10 tyX10 tyX10_ok nmX10 kf_X10_40 (by decide) rfl hini rfl (by decide +kernel) rfl rfl hh hlen hdg kk
theorem kf_X10_43 : Cond.fieldLink RX10 43 (TX10 15).1 (TX10 15).2.1 (TX10 15).2.2.1 ∈ tbG := tb_at 797 (by decide +kernel) (by decide +kernel)
theorem gt_X10_43 {X : CX} {bytes : ByteArray} {ret : Option FieldType} {fr lo mc ms n1 : Nat} {post : Option Value → HP → Prop} {n k sl pc : Nat} {h : HP} {L : List (Option Value)} {st : List Value} (hX : Cx X RX10 bytes ret fr lo mc ms n1 post) {a : Nat} {fs : List Value} {v : Value} (hdg : decode bytes pc = .ok (.getfield 43, 3)) (hh : h a = some (cO 10 fs)) (hv : fs[15]? = some v) (kk : AW X n h k sl (pc + 3) L (v :: st)) : AW X n h k sl pc L (.ref a :: st) := aw_get hX 15 rfl (C := RX10) (T := TX10) (N := 16) rfl in_X10 kf_X10_43 (by decide) hh hv hdg kk
theorem pf_X10_43 {X : CX} {bytes : ByteArray} {ret : Option FieldType} {fr lo mc ms n1 : Nat} {post : Option Value → HP → Prop} {n k sl pc : Nat} {h : HP} {L : List (Option Value)} {st : List Value} (hX : Cx X RX10 bytes ret fr lo mc ms n1 post) (hini : X.2.2.2.2.2.2.2.2.1.name = "<init>") {a b : Nat} {fs : List Value} (hdg : decode bytes pc = .ok (.putfield 43, 3)) (hh : h a = some (cO 10 fs)) (hlen : 15 < fs.length) (kk : AW X n (hset h a (cO 10 (fs.set 15 (.ref b)))) k sl (pc + 3) L st) : AW X n h k sl pc L (.ref b :: .ref a :: st) := aw_putF hX 15 rfl (C := RX10) (T := TX10) (N := 16) (ty := .array .int) (v := .ref b) rfl in_X10 tyX10 tyX10_ok nmX10 kf_X10_43 (by decide) rfl hini rfl (by decide +kernel) rfl rfl hh hlen hdg kk
theorem kn_X8_32 : Cond.fieldLinkNest RX8 32 RX9 "FIRST_NUMBERS" "[I" "FlipBoard" ∈ lw_tbl := List.mem_of_getElem? (i := 164) (by decide +kernel)
theorem kn_X5_55 : Cond.fieldLinkNest RX5 55 RX9 "SHIFTS" "[I" "FlipBoard" ∈ lw_tbl := List.mem_of_getElem? (i := 512) (by decide +kernel)
theorem mf_X9_init : MF yX9_init cX9_init 1 none 0 := ⟨tb_at 68 (by decide +kernel) (by decide +kernel), tb_at 49 (by decide +kernel) (by decide +kernel), by decide +kernel, by decide +kernel⟩
theorem mi_X9_init : Cond.instanceMethod yX9_init ∈ tbG := tb_at 67 (by decide +kernel) (by decide +kernel)
theorem mf_X8_init : MF yX8_init cX8_init 1 none 0 := ⟨tb_at 76 (by decide +kernel) (by decide +kernel), tb_at 50 (by decide +kernel) (by decide +kernel), by decide +kernel, by decide +kernel⟩
theorem mi_X8_init : Cond.instanceMethod yX8_init ∈ tbG := tb_at 75 (by decide +kernel) (by decide +kernel)
theorem mf_X0_init : MF yX0_init cX0_init 1 none 0 := ⟨tb_at 82 (by decide +kernel) (by decide +kernel), tb_at 51 (by decide +kernel) (by decide +kernel), by decide +kernel, by decide +kernel⟩
theorem mi_X0_init : Cond.instanceMethod yX0_init ∈ tbG := tb_at 81 (by decide +kernel) (by decide +kernel)
theorem mf_X3_init : MF yX3_init cX3_init 1 none 0 := ⟨tb_at 116 (by decide +kernel) (by decide +kernel), tb_at 52 (by decide +kernel) (by decide +kernel), by decide +kernel, by decide +kernel⟩
theorem mi_X3_init : Cond.instanceMethod yX3_init ∈ tbG := tb_at 115 (by decide +kernel) (by decide +kernel)
theorem mf_X7_init : MF yX7_init cX7_init 1 none 0 := ⟨tb_at 144 (by decide +kernel) (by decide +kernel), tb_at 53 (by decide +kernel) (by decide +kernel), by decide +kernel, by decide +kernel⟩
theorem mi_X7_init : Cond.instanceMethod yX7_init ∈ tbG := tb_at 143 (by decide +kernel) (by decide +kernel)
theorem mf_X2_init : MF yX2_init cX2_init 2 none 0 := ⟨tb_at 200 (by decide +kernel) (by decide +kernel), tb_at 54 (by decide +kernel) (by decide +kernel), by decide +kernel, by decide +kernel⟩
theorem mi_X2_init : Cond.instanceMethod yX2_init ∈ tbG := tb_at 199 (by decide +kernel) (by decide +kernel)
theorem mf_X5_init : MF yX5_init cX5_init 1 none 0 := ⟨tb_at 220 (by decide +kernel) (by decide +kernel), tb_at 55 (by decide +kernel) (by decide +kernel), by decide +kernel, by decide +kernel⟩
theorem mi_X5_init : Cond.instanceMethod yX5_init ∈ tbG := tb_at 219 (by decide +kernel) (by decide +kernel)
theorem mf_X1_init : MF yX1_init cX1_init 1 none 0 := ⟨tb_at 235 (by decide +kernel) (by decide +kernel), tb_at 56 (by decide +kernel) (by decide +kernel), by decide +kernel, by decide +kernel⟩
theorem mi_X1_init : Cond.instanceMethod yX1_init ∈ tbG := tb_at 234 (by decide +kernel) (by decide +kernel)
theorem mf_X6_init : MF yX6_init cX6_init 1 none 0 := ⟨tb_at 245 (by decide +kernel) (by decide +kernel), tb_at 57 (by decide +kernel) (by decide +kernel), by decide +kernel, by decide +kernel⟩
theorem mi_X6_init : Cond.instanceMethod yX6_init ∈ tbG := tb_at 244 (by decide +kernel) (by decide +kernel)
theorem mf_X4_init : MF yX4_init cX4_init 1 none 0 := ⟨tb_at 271 (by decide +kernel) (by decide +kernel), tb_at 58 (by decide +kernel) (by decide +kernel), by decide +kernel, by decide +kernel⟩
theorem mi_X4_init : Cond.instanceMethod yX4_init ∈ tbG := tb_at 270 (by decide +kernel) (by decide +kernel)
theorem mf_X9_begin : MF yX9_begin cX9_begin 3 (some .int) 1 := ⟨tb_at 322 (by decide +kernel) (by decide +kernel), tb_at 49 (by decide +kernel) (by decide +kernel), by decide +kernel, by decide +kernel⟩
theorem mi_X9_begin : Cond.instanceMethod yX9_begin ∈ tbG := tb_at 320 (by decide +kernel) (by decide +kernel)
theorem ms_X9_begin : Cond.selects yX9_begin.cls yX9_begin yX9_begin ∈ tbG := tb_at 321 (by decide +kernel) (by decide +kernel)
theorem mf_X2_keep : MF yX2_keep cX2_keep 3 none 1 := ⟨tb_at 326 (by decide +kernel) (by decide +kernel), tb_at 54 (by decide +kernel) (by decide +kernel), by decide +kernel, by decide +kernel⟩
theorem mi_X2_keep : Cond.instanceMethod yX2_keep ∈ tbG := tb_at 324 (by decide +kernel) (by decide +kernel)
theorem ms_X2_keep : Cond.selects yX2_keep.cls yX2_keep yX2_keep ∈ tbG := tb_at 325 (by decide +kernel) (by decide +kernel)
theorem mf_X2_stateAt : MF yX2_stateAt cX2_stateAt 2 (some (.object "FlipBoard$State")) 1 := ⟨tb_at 330 (by decide +kernel) (by decide +kernel), tb_at 54 (by decide +kernel) (by decide +kernel), by decide +kernel, by decide +kernel⟩
theorem mi_X2_stateAt : Cond.instanceMethod yX2_stateAt ∈ tbG := tb_at 328 (by decide +kernel) (by decide +kernel)
theorem ms_X2_stateAt : Cond.selects yX2_stateAt.cls yX2_stateAt yX2_stateAt ∈ tbG := tb_at 329 (by decide +kernel) (by decide +kernel)
theorem mf_J9_floorMod_7cf53 : MF yJ9_floorMod_7cf53 cJ9_floorMod_7cf53 3 (some .int) 2 := ⟨tb_at 333 (by decide +kernel) (by decide +kernel), tb_at 60 (by decide +kernel) (by decide +kernel), by decide +kernel, by decide +kernel⟩
theorem mt_J9_floorMod_7cf53 : Cond.static yJ9_floorMod_7cf53 ∈ tbG := tb_at 332 (by decide +kernel) (by decide +kernel)
theorem mf_X8_copyFrom : MF yX8_copyFrom cX8_copyFrom 2 none 1 := ⟨tb_at 337 (by decide +kernel) (by decide +kernel), tb_at 50 (by decide +kernel) (by decide +kernel), by decide +kernel, by decide +kernel⟩
theorem mi_X8_copyFrom : Cond.instanceMethod yX8_copyFrom ∈ tbG := tb_at 335 (by decide +kernel) (by decide +kernel)
theorem ms_X8_copyFrom : Cond.selects yX8_copyFrom.cls yX8_copyFrom yX8_copyFrom ∈ tbG := tb_at 336 (by decide +kernel) (by decide +kernel)
theorem mf_X0_copyFrom : MF yX0_copyFrom cX0_copyFrom 2 none 1 := ⟨tb_at 341 (by decide +kernel) (by decide +kernel), tb_at 51 (by decide +kernel) (by decide +kernel), by decide +kernel, by decide +kernel⟩
theorem mi_X0_copyFrom : Cond.instanceMethod yX0_copyFrom ∈ tbG := tb_at 339 (by decide +kernel) (by decide +kernel)
theorem ms_X0_copyFrom : Cond.selects yX0_copyFrom.cls yX0_copyFrom yX0_copyFrom ∈ tbG := tb_at 340 (by decide +kernel) (by decide +kernel)
theorem mf_X9_copy : MF yX9_copy cX9_copy 2 none 2 := ⟨tb_at 344 (by decide +kernel) (by decide +kernel), tb_at 49 (by decide +kernel) (by decide +kernel), by decide +kernel, by decide +kernel⟩
theorem mt_X9_copy : Cond.static yX9_copy ∈ tbG := tb_at 343 (by decide +kernel) (by decide +kernel)
theorem mf_J9_min_7cf53 : MF yJ9_min_7cf53 cJ9_min_7cf53 2 (some .int) 2 := ⟨tb_at 347 (by decide +kernel) (by decide +kernel), tb_at 60 (by decide +kernel) (by decide +kernel), by decide +kernel, by decide +kernel⟩
theorem mt_J9_min_7cf53 : Cond.static yJ9_min_7cf53 ∈ tbG := tb_at 346 (by decide +kernel) (by decide +kernel)
theorem mf_X3_copyFrom : MF yX3_copyFrom cX3_copyFrom 2 none 1 := ⟨tb_at 354 (by decide +kernel) (by decide +kernel), tb_at 52 (by decide +kernel) (by decide +kernel), by decide +kernel, by decide +kernel⟩
theorem mi_X3_copyFrom : Cond.instanceMethod yX3_copyFrom ∈ tbG := tb_at 352 (by decide +kernel) (by decide +kernel)
theorem ms_X3_copyFrom : Cond.selects yX3_copyFrom.cls yX3_copyFrom yX3_copyFrom ∈ tbG := tb_at 353 (by decide +kernel) (by decide +kernel)
theorem mf_X7_copyFrom : MF yX7_copyFrom cX7_copyFrom 2 none 1 := ⟨tb_at 359 (by decide +kernel) (by decide +kernel), tb_at 53 (by decide +kernel) (by decide +kernel), by decide +kernel, by decide +kernel⟩
theorem mi_X7_copyFrom : Cond.instanceMethod yX7_copyFrom ∈ tbG := tb_at 357 (by decide +kernel) (by decide +kernel)
theorem ms_X7_copyFrom : Cond.selects yX7_copyFrom.cls yX7_copyFrom yX7_copyFrom ∈ tbG := tb_at 358 (by decide +kernel) (by decide +kernel)
theorem mf_X0_renew : MF yX0_renew cX0_renew 2 none 1 := ⟨tb_at 365 (by decide +kernel) (by decide +kernel), tb_at 51 (by decide +kernel) (by decide +kernel), by decide +kernel, by decide +kernel⟩
theorem mi_X0_renew : Cond.instanceMethod yX0_renew ∈ tbG := tb_at 363 (by decide +kernel) (by decide +kernel)
theorem ms_X0_renew : Cond.selects yX0_renew.cls yX0_renew yX0_renew ∈ tbG := tb_at 364 (by decide +kernel) (by decide +kernel)
theorem mf_J7_fill_53178 : MF yJ7_fill_53178 cJ7_fill_53178 4 none 2 := ⟨tb_at 368 (by decide +kernel) (by decide +kernel), tb_at 62 (by decide +kernel) (by decide +kernel), by decide +kernel, by decide +kernel⟩
theorem mt_J7_fill_53178 : Cond.static yJ7_fill_53178 ∈ tbG := tb_at 367 (by decide +kernel) (by decide +kernel)
theorem mf_X3_renew : MF yX3_renew cX3_renew 1 none 0 := ⟨tb_at 372 (by decide +kernel) (by decide +kernel), tb_at 52 (by decide +kernel) (by decide +kernel), by decide +kernel, by decide +kernel⟩
theorem mi_X3_renew : Cond.instanceMethod yX3_renew ∈ tbG := tb_at 370 (by decide +kernel) (by decide +kernel)
theorem ms_X3_renew : Cond.selects yX3_renew.cls yX3_renew yX3_renew ∈ tbG := tb_at 371 (by decide +kernel) (by decide +kernel)
theorem mf_X9_setNumber : MF yX9_setNumber cX9_setNumber 4 (some .int) 2 := ⟨tb_at 377 (by decide +kernel) (by decide +kernel), tb_at 49 (by decide +kernel) (by decide +kernel), by decide +kernel, by decide +kernel⟩
theorem mi_X9_setNumber : Cond.instanceMethod yX9_setNumber ∈ tbG := tb_at 375 (by decide +kernel) (by decide +kernel)
theorem ms_X9_setNumber : Cond.selects yX9_setNumber.cls yX9_setNumber yX9_setNumber ∈ tbG := tb_at 376 (by decide +kernel) (by decide +kernel)
theorem mf_X8_hasNumber : MF yX8_hasNumber cX8_hasNumber 2 (some .boolean) 1 := ⟨tb_at 381 (by decide +kernel) (by decide +kernel), tb_at 50 (by decide +kernel) (by decide +kernel), by decide +kernel, by decide +kernel⟩
theorem mi_X8_hasNumber : Cond.instanceMethod yX8_hasNumber ∈ tbG := tb_at 379 (by decide +kernel) (by decide +kernel)
theorem ms_X8_hasNumber : Cond.selects yX8_hasNumber.cls yX8_hasNumber yX8_hasNumber ∈ tbG := tb_at 380 (by decide +kernel) (by decide +kernel)
theorem mf_X9_setColumn : MF yX9_setColumn cX9_setColumn 4 (some .int) 3 := ⟨tb_at 389 (by decide +kernel) (by decide +kernel), tb_at 49 (by decide +kernel) (by decide +kernel), by decide +kernel, by decide +kernel⟩
theorem mi_X9_setColumn : Cond.instanceMethod yX9_setColumn ∈ tbG := tb_at 387 (by decide +kernel) (by decide +kernel)
theorem ms_X9_setColumn : Cond.selects yX9_setColumn.cls yX9_setColumn yX9_setColumn ∈ tbG := tb_at 388 (by decide +kernel) (by decide +kernel)
theorem mf_X7_widthOf : MF yX7_widthOf cX7_widthOf 2 (some .int) 1 := ⟨tb_at 393 (by decide +kernel) (by decide +kernel), tb_at 53 (by decide +kernel) (by decide +kernel), by decide +kernel, by decide +kernel⟩
theorem mi_X7_widthOf : Cond.instanceMethod yX7_widthOf ∈ tbG := tb_at 391 (by decide +kernel) (by decide +kernel)
theorem ms_X7_widthOf : Cond.selects yX7_widthOf.cls yX7_widthOf yX7_widthOf ∈ tbG := tb_at 392 (by decide +kernel) (by decide +kernel)
theorem mf_X7_isLetter : MF yX7_isLetter cX7_isLetter 2 (some .boolean) 1 := ⟨tb_at 397 (by decide +kernel) (by decide +kernel), tb_at 53 (by decide +kernel) (by decide +kernel), by decide +kernel, by decide +kernel⟩
theorem mi_X7_isLetter : Cond.instanceMethod yX7_isLetter ∈ tbG := tb_at 395 (by decide +kernel) (by decide +kernel)
theorem ms_X7_isLetter : Cond.selects yX7_isLetter.cls yX7_isLetter yX7_isLetter ∈ tbG := tb_at 396 (by decide +kernel) (by decide +kernel)
theorem mf_X7_putColumn : MF yX7_putColumn cX7_putColumn 4 none 3 := ⟨tb_at 401 (by decide +kernel) (by decide +kernel), tb_at 53 (by decide +kernel) (by decide +kernel), by decide +kernel, by decide +kernel⟩
theorem mi_X7_putColumn : Cond.instanceMethod yX7_putColumn ∈ tbG := tb_at 399 (by decide +kernel) (by decide +kernel)
theorem ms_X7_putColumn : Cond.selects yX7_putColumn.cls yX7_putColumn yX7_putColumn ∈ tbG := tb_at 400 (by decide +kernel) (by decide +kernel)
theorem mf_J9_max_7cf53 : MF yJ9_max_7cf53 cJ9_max_7cf53 2 (some .int) 2 := ⟨tb_at 404 (by decide +kernel) (by decide +kernel), tb_at 60 (by decide +kernel) (by decide +kernel), by decide +kernel, by decide +kernel⟩
theorem mt_J9_max_7cf53 : Cond.static yJ9_max_7cf53 ∈ tbG := tb_at 403 (by decide +kernel) (by decide +kernel)
theorem mf_X9_addMessage : MF yX9_addMessage cX9_addMessage 3 (some .int) 2 := ⟨tb_at 408 (by decide +kernel) (by decide +kernel), tb_at 49 (by decide +kernel) (by decide +kernel), by decide +kernel, by decide +kernel⟩
theorem mi_X9_addMessage : Cond.instanceMethod yX9_addMessage ∈ tbG := tb_at 406 (by decide +kernel) (by decide +kernel)
theorem ms_X9_addMessage : Cond.selects yX9_addMessage.cls yX9_addMessage yX9_addMessage ∈ tbG := tb_at 407 (by decide +kernel) (by decide +kernel)
theorem mf_X7_startMessage : MF yX7_startMessage cX7_startMessage 1 none 0 := ⟨tb_at 412 (by decide +kernel) (by decide +kernel), tb_at 53 (by decide +kernel) (by decide +kernel), by decide +kernel, by decide +kernel⟩
theorem mi_X7_startMessage : Cond.instanceMethod yX7_startMessage ∈ tbG := tb_at 410 (by decide +kernel) (by decide +kernel)
theorem ms_X7_startMessage : Cond.selects yX7_startMessage.cls yX7_startMessage yX7_startMessage ∈ tbG := tb_at 411 (by decide +kernel) (by decide +kernel)
theorem mf_X7_addCharacter : MF yX7_addCharacter cX7_addCharacter 4 none 1 := ⟨tb_at 416 (by decide +kernel) (by decide +kernel), tb_at 53 (by decide +kernel) (by decide +kernel), by decide +kernel, by decide +kernel⟩
theorem mi_X7_addCharacter : Cond.instanceMethod yX7_addCharacter ∈ tbG := tb_at 414 (by decide +kernel) (by decide +kernel)
theorem ms_X7_addCharacter : Cond.selects yX7_addCharacter.cls yX7_addCharacter yX7_addCharacter ∈ tbG := tb_at 415 (by decide +kernel) (by decide +kernel)
theorem mf_X7_lengthOf : MF yX7_lengthOf cX7_lengthOf 2 (some .int) 1 := ⟨tb_at 420 (by decide +kernel) (by decide +kernel), tb_at 53 (by decide +kernel) (by decide +kernel), by decide +kernel, by decide +kernel⟩
theorem mi_X7_lengthOf : Cond.instanceMethod yX7_lengthOf ∈ tbG := tb_at 418 (by decide +kernel) (by decide +kernel)
theorem ms_X7_lengthOf : Cond.selects yX7_lengthOf.cls yX7_lengthOf yX7_lengthOf ∈ tbG := tb_at 419 (by decide +kernel) (by decide +kernel)
theorem mf_X7_hasMessage : MF yX7_hasMessage cX7_hasMessage 2 (some .boolean) 1 := ⟨tb_at 424 (by decide +kernel) (by decide +kernel), tb_at 53 (by decide +kernel) (by decide +kernel), by decide +kernel, by decide +kernel⟩
theorem mi_X7_hasMessage : Cond.instanceMethod yX7_hasMessage ∈ tbG := tb_at 422 (by decide +kernel) (by decide +kernel)
theorem ms_X7_hasMessage : Cond.selects yX7_hasMessage.cls yX7_hasMessage yX7_hasMessage ∈ tbG := tb_at 423 (by decide +kernel) (by decide +kernel)
theorem mf_X9_removeMessage : MF yX9_removeMessage cX9_removeMessage 2 (some .int) 1 := ⟨tb_at 428 (by decide +kernel) (by decide +kernel), tb_at 49 (by decide +kernel) (by decide +kernel), by decide +kernel, by decide +kernel⟩
theorem mi_X9_removeMessage : Cond.instanceMethod yX9_removeMessage ∈ tbG := tb_at 426 (by decide +kernel) (by decide +kernel)
theorem ms_X9_removeMessage : Cond.selects yX9_removeMessage.cls yX9_removeMessage yX9_removeMessage ∈ tbG := tb_at 427 (by decide +kernel) (by decide +kernel)
theorem mf_X7_dropMessage : MF yX7_dropMessage cX7_dropMessage 5 none 1 := ⟨tb_at 433 (by decide +kernel) (by decide +kernel), tb_at 53 (by decide +kernel) (by decide +kernel), by decide +kernel, by decide +kernel⟩
theorem mi_X7_dropMessage : Cond.instanceMethod yX7_dropMessage ∈ tbG := tb_at 431 (by decide +kernel) (by decide +kernel)
theorem ms_X7_dropMessage : Cond.selects yX7_dropMessage.cls yX7_dropMessage yX7_dropMessage ∈ tbG := tb_at 432 (by decide +kernel) (by decide +kernel)
theorem mf_X9_appendCharacter : MF yX9_appendCharacter cX9_appendCharacter 2 (some .int) 1 := ⟨tb_at 437 (by decide +kernel) (by decide +kernel), tb_at 49 (by decide +kernel) (by decide +kernel), by decide +kernel, by decide +kernel⟩
theorem mi_X9_appendCharacter : Cond.instanceMethod yX9_appendCharacter ∈ tbG := tb_at 435 (by decide +kernel) (by decide +kernel)
theorem ms_X9_appendCharacter : Cond.selects yX9_appendCharacter.cls yX9_appendCharacter yX9_appendCharacter ∈ tbG := tb_at 436 (by decide +kernel) (by decide +kernel)
theorem mf_X9_clearText : MF yX9_clearText cX9_clearText 2 (some .int) 0 := ⟨tb_at 441 (by decide +kernel) (by decide +kernel), tb_at 49 (by decide +kernel) (by decide +kernel), by decide +kernel, by decide +kernel⟩
theorem mi_X9_clearText : Cond.instanceMethod yX9_clearText ∈ tbG := tb_at 439 (by decide +kernel) (by decide +kernel)
theorem ms_X9_clearText : Cond.selects yX9_clearText.cls yX9_clearText yX9_clearText ∈ tbG := tb_at 440 (by decide +kernel) (by decide +kernel)
theorem mf_X9_load : MF yX9_load cX9_load 2 (some .int) 0 := ⟨tb_at 445 (by decide +kernel) (by decide +kernel), tb_at 49 (by decide +kernel) (by decide +kernel), by decide +kernel, by decide +kernel⟩
theorem mi_X9_load : Cond.instanceMethod yX9_load ∈ tbG := tb_at 443 (by decide +kernel) (by decide +kernel)
theorem ms_X9_load : Cond.selects yX9_load.cls yX9_load yX9_load ∈ tbG := tb_at 444 (by decide +kernel) (by decide +kernel)
theorem mf_X6_errorIn : MF yX6_errorIn cX6_errorIn 5 (some .int) 3 := ⟨tb_at 449 (by decide +kernel) (by decide +kernel), tb_at 57 (by decide +kernel) (by decide +kernel), by decide +kernel, by decide +kernel⟩
theorem mi_X6_errorIn : Cond.instanceMethod yX6_errorIn ∈ tbG := tb_at 447 (by decide +kernel) (by decide +kernel)
theorem ms_X6_errorIn : Cond.selects yX6_errorIn.cls yX6_errorIn yX6_errorIn ∈ tbG := tb_at 448 (by decide +kernel) (by decide +kernel)
theorem mf_X6_takes : MF yX6_takes cX6_takes 2 (some .boolean) 1 := ⟨tb_at 454 (by decide +kernel) (by decide +kernel), tb_at 57 (by decide +kernel) (by decide +kernel), by decide +kernel, by decide +kernel⟩
theorem mi_X6_takes : Cond.instanceMethod yX6_takes ∈ tbG := tb_at 453 (by decide +kernel) (by decide +kernel)
theorem ms_X6_takes : Cond.selects yX6_takes.cls yX6_takes yX6_takes ∈ tbG := tb_at 0 (by decide +kernel) (by decide +kernel)
theorem mf_X6_takesStart : MF yX6_takesStart cX6_takesStart 2 (some .boolean) 1 := ⟨tb_at 458 (by decide +kernel) (by decide +kernel), tb_at 57 (by decide +kernel) (by decide +kernel), by decide +kernel, by decide +kernel⟩
theorem mi_X6_takesStart : Cond.instanceMethod yX6_takesStart ∈ tbG := tb_at 457 (by decide +kernel) (by decide +kernel)
theorem ms_X6_takesStart : Cond.selects yX6_takesStart.cls yX6_takesStart yX6_takesStart ∈ tbG := tb_at 1 (by decide +kernel) (by decide +kernel)
theorem mf_X6_isSmallLetter : MF yX6_isSmallLetter cX6_isSmallLetter 1 (some .boolean) 1 := ⟨tb_at 462 (by decide +kernel) (by decide +kernel), tb_at 57 (by decide +kernel) (by decide +kernel), by decide +kernel, by decide +kernel⟩
theorem mt_X6_isSmallLetter : Cond.static yX6_isSmallLetter ∈ tbG := tb_at 461 (by decide +kernel) (by decide +kernel)
theorem mf_X7_clearLetter : MF yX7_clearLetter cX7_clearLetter 2 none 1 := ⟨tb_at 466 (by decide +kernel) (by decide +kernel), tb_at 53 (by decide +kernel) (by decide +kernel), by decide +kernel, by decide +kernel⟩
theorem mi_X7_clearLetter : Cond.instanceMethod yX7_clearLetter ∈ tbG := tb_at 464 (by decide +kernel) (by decide +kernel)
theorem ms_X7_clearLetter : Cond.selects yX7_clearLetter.cls yX7_clearLetter yX7_clearLetter ∈ tbG := tb_at 465 (by decide +kernel) (by decide +kernel)
theorem mf_X6_takesEqualsSign : MF yX6_takesEqualsSign cX6_takesEqualsSign 2 (some .boolean) 1 := ⟨tb_at 470 (by decide +kernel) (by decide +kernel), tb_at 57 (by decide +kernel) (by decide +kernel), by decide +kernel, by decide +kernel⟩
theorem mi_X6_takesEqualsSign : Cond.instanceMethod yX6_takesEqualsSign ∈ tbG := tb_at 469 (by decide +kernel) (by decide +kernel)
theorem ms_X6_takesEqualsSign : Cond.selects yX6_takesEqualsSign.cls yX6_takesEqualsSign yX6_takesEqualsSign ∈ tbG := tb_at 2 (by decide +kernel) (by decide +kernel)
theorem mf_X6_takesFirstDigit : MF yX6_takesFirstDigit cX6_takesFirstDigit 4 (some .boolean) 1 := ⟨tb_at 474 (by decide +kernel) (by decide +kernel), tb_at 57 (by decide +kernel) (by decide +kernel), by decide +kernel, by decide +kernel⟩
theorem mi_X6_takesFirstDigit : Cond.instanceMethod yX6_takesFirstDigit ∈ tbG := tb_at 473 (by decide +kernel) (by decide +kernel)
theorem ms_X6_takesFirstDigit : Cond.selects yX6_takesFirstDigit.cls yX6_takesFirstDigit yX6_takesFirstDigit ∈ tbG := tb_at 3 (by decide +kernel) (by decide +kernel)
theorem mf_X6_endItem : MF yX6_endItem cX6_endItem 1 none 0 := ⟨tb_at 479 (by decide +kernel) (by decide +kernel), tb_at 57 (by decide +kernel) (by decide +kernel), by decide +kernel, by decide +kernel⟩
theorem mi_X6_endItem : Cond.instanceMethod yX6_endItem ∈ tbG := tb_at 478 (by decide +kernel) (by decide +kernel)
theorem ms_X6_endItem : Cond.selects yX6_endItem.cls yX6_endItem yX6_endItem ∈ tbG := tb_at 4 (by decide +kernel) (by decide +kernel)
theorem mf_X6_digitOf : MF yX6_digitOf cX6_digitOf 1 (some .int) 1 := ⟨tb_at 482 (by decide +kernel) (by decide +kernel), tb_at 57 (by decide +kernel) (by decide +kernel), by decide +kernel, by decide +kernel⟩
theorem mt_X6_digitOf : Cond.static yX6_digitOf ∈ tbG := tb_at 481 (by decide +kernel) (by decide +kernel)
theorem mf_X6_takesSecondDigit : MF yX6_takesSecondDigit cX6_takesSecondDigit 3 (some .boolean) 1 := ⟨tb_at 486 (by decide +kernel) (by decide +kernel), tb_at 57 (by decide +kernel) (by decide +kernel), by decide +kernel, by decide +kernel⟩
theorem mi_X6_takesSecondDigit : Cond.instanceMethod yX6_takesSecondDigit ∈ tbG := tb_at 485 (by decide +kernel) (by decide +kernel)
theorem ms_X6_takesSecondDigit : Cond.selects yX6_takesSecondDigit.cls yX6_takesSecondDigit yX6_takesSecondDigit ∈ tbG := tb_at 5 (by decide +kernel) (by decide +kernel)
theorem mf_X6_takesCharacter : MF yX6_takesCharacter cX6_takesCharacter 3 (some .boolean) 1 := ⟨tb_at 491 (by decide +kernel) (by decide +kernel), tb_at 57 (by decide +kernel) (by decide +kernel), by decide +kernel, by decide +kernel⟩
theorem mi_X6_takesCharacter : Cond.instanceMethod yX6_takesCharacter ∈ tbG := tb_at 490 (by decide +kernel) (by decide +kernel)
theorem ms_X6_takesCharacter : Cond.selects yX6_takesCharacter.cls yX6_takesCharacter yX6_takesCharacter ∈ tbG := tb_at 6 (by decide +kernel) (by decide +kernel)
theorem mf_X9_show : MF yX9_show cX9_show 3 (some .int) 2 := ⟨tb_at 498 (by decide +kernel) (by decide +kernel), tb_at 49 (by decide +kernel) (by decide +kernel), by decide +kernel, by decide +kernel⟩
theorem mi_X9_show : Cond.instanceMethod yX9_show ∈ tbG := tb_at 496 (by decide +kernel) (by decide +kernel)
theorem ms_X9_show : Cond.selects yX9_show.cls yX9_show yX9_show ∈ tbG := tb_at 497 (by decide +kernel) (by decide +kernel)
theorem mf_X9_canShow : MF yX9_canShow cX9_canShow 3 (some .boolean) 2 := ⟨tb_at 502 (by decide +kernel) (by decide +kernel), tb_at 49 (by decide +kernel) (by decide +kernel), by decide +kernel, by decide +kernel⟩
theorem mi_X9_canShow : Cond.instanceMethod yX9_canShow ∈ tbG := tb_at 501 (by decide +kernel) (by decide +kernel)
theorem ms_X9_canShow : Cond.selects yX9_canShow.cls yX9_canShow yX9_canShow ∈ tbG := tb_at 7 (by decide +kernel) (by decide +kernel)
theorem mf_X5_drawAs : MF yX5_drawAs cX5_drawAs 5 none 3 := ⟨tb_at 506 (by decide +kernel) (by decide +kernel), tb_at 55 (by decide +kernel) (by decide +kernel), by decide +kernel, by decide +kernel⟩
theorem mi_X5_drawAs : Cond.instanceMethod yX5_drawAs ∈ tbG := tb_at 504 (by decide +kernel) (by decide +kernel)
theorem ms_X5_drawAs : Cond.selects yX5_drawAs.cls yX5_drawAs yX5_drawAs ∈ tbG := tb_at 505 (by decide +kernel) (by decide +kernel)
theorem mf_X5_bestShiftOf : MF yX5_bestShiftOf cX5_bestShiftOf 12 (some .int) 2 := ⟨tb_at 510 (by decide +kernel) (by decide +kernel), tb_at 55 (by decide +kernel) (by decide +kernel), by decide +kernel, by decide +kernel⟩
theorem mi_X5_bestShiftOf : Cond.instanceMethod yX5_bestShiftOf ∈ tbG := tb_at 508 (by decide +kernel) (by decide +kernel)
theorem ms_X5_bestShiftOf : Cond.selects yX5_bestShiftOf.cls yX5_bestShiftOf yX5_bestShiftOf ∈ tbG := tb_at 509 (by decide +kernel) (by decide +kernel)
theorem mf_X5_draw : MF yX5_draw cX5_draw 9 none 4 := ⟨tb_at 517 (by decide +kernel) (by decide +kernel), tb_at 55 (by decide +kernel) (by decide +kernel), by decide +kernel, by decide +kernel⟩
theorem mi_X5_draw : Cond.instanceMethod yX5_draw ∈ tbG := tb_at 515 (by decide +kernel) (by decide +kernel)
theorem ms_X5_draw : Cond.selects yX5_draw.cls yX5_draw yX5_draw ∈ tbG := tb_at 516 (by decide +kernel) (by decide +kernel)
theorem mf_X7_stripColumns : MF yX7_stripColumns cX7_stripColumns 5 (some .int) 1 := ⟨tb_at 521 (by decide +kernel) (by decide +kernel), tb_at 53 (by decide +kernel) (by decide +kernel), by decide +kernel, by decide +kernel⟩
theorem mi_X7_stripColumns : Cond.instanceMethod yX7_stripColumns ∈ tbG := tb_at 519 (by decide +kernel) (by decide +kernel)
theorem ms_X7_stripColumns : Cond.selects yX7_stripColumns.cls yX7_stripColumns yX7_stripColumns ∈ tbG := tb_at 520 (by decide +kernel) (by decide +kernel)
theorem mf_X7_characterOf : MF yX7_characterOf cX7_characterOf 4 (some .int) 2 := ⟨tb_at 525 (by decide +kernel) (by decide +kernel), tb_at 53 (by decide +kernel) (by decide +kernel), by decide +kernel, by decide +kernel⟩
theorem mi_X7_characterOf : Cond.instanceMethod yX7_characterOf ∈ tbG := tb_at 523 (by decide +kernel) (by decide +kernel)
theorem ms_X7_characterOf : Cond.selects yX7_characterOf.cls yX7_characterOf yX7_characterOf ∈ tbG := tb_at 524 (by decide +kernel) (by decide +kernel)
theorem mf_X7_stripBits : MF yX7_stripBits cX7_stripBits 7 (some .int) 2 := ⟨tb_at 530 (by decide +kernel) (by decide +kernel), tb_at 53 (by decide +kernel) (by decide +kernel), by decide +kernel, by decide +kernel⟩
theorem mi_X7_stripBits : Cond.instanceMethod yX7_stripBits ∈ tbG := tb_at 528 (by decide +kernel) (by decide +kernel)
theorem ms_X7_stripBits : Cond.selects yX7_stripBits.cls yX7_stripBits yX7_stripBits ∈ tbG := tb_at 529 (by decide +kernel) (by decide +kernel)
theorem mf_X7_columnOf : MF yX7_columnOf cX7_columnOf 4 (some .int) 2 := ⟨tb_at 534 (by decide +kernel) (by decide +kernel), tb_at 53 (by decide +kernel) (by decide +kernel), by decide +kernel, by decide +kernel⟩
theorem mi_X7_columnOf : Cond.instanceMethod yX7_columnOf ∈ tbG := tb_at 532 (by decide +kernel) (by decide +kernel)
theorem ms_X7_columnOf : Cond.selects yX7_columnOf.cls yX7_columnOf yX7_columnOf ∈ tbG := tb_at 533 (by decide +kernel) (by decide +kernel)
theorem mf_X0_knownAgainst : MF yX0_knownAgainst cX0_knownAgainst 5 (some .int) 1 := ⟨tb_at 538 (by decide +kernel) (by decide +kernel), tb_at 51 (by decide +kernel) (by decide +kernel), by decide +kernel, by decide +kernel⟩
theorem mi_X0_knownAgainst : Cond.instanceMethod yX0_knownAgainst ∈ tbG := tb_at 536 (by decide +kernel) (by decide +kernel)
theorem ms_X0_knownAgainst : Cond.selects yX0_knownAgainst.cls yX0_knownAgainst yX0_knownAgainst ∈ tbG := tb_at 537 (by decide +kernel) (by decide +kernel)
theorem mf_J6_bitCount_0f7a4 : MF yJ6_bitCount_0f7a4 cJ6_bitCount_0f7a4 1 (some .int) 1 := ⟨tb_at 541 (by decide +kernel) (by decide +kernel), tb_at 63 (by decide +kernel) (by decide +kernel), by decide +kernel, by decide +kernel⟩
theorem mt_J6_bitCount_0f7a4 : Cond.static yJ6_bitCount_0f7a4 ∈ tbG := tb_at 540 (by decide +kernel) (by decide +kernel)
theorem mf_X0_differing : MF yX0_differing cX0_differing 6 (some .int) 2 := ⟨tb_at 548 (by decide +kernel) (by decide +kernel), tb_at 51 (by decide +kernel) (by decide +kernel), by decide +kernel, by decide +kernel⟩
theorem mi_X0_differing : Cond.instanceMethod yX0_differing ∈ tbG := tb_at 546 (by decide +kernel) (by decide +kernel)
theorem ms_X0_differing : Cond.selects yX0_differing.cls yX0_differing yX0_differing ∈ tbG := tb_at 547 (by decide +kernel) (by decide +kernel)
theorem mf_X0_aimAt : MF yX0_aimAt cX0_aimAt 2 none 1 := ⟨tb_at 552 (by decide +kernel) (by decide +kernel), tb_at 51 (by decide +kernel) (by decide +kernel), by decide +kernel, by decide +kernel⟩
theorem mi_X0_aimAt : Cond.instanceMethod yX0_aimAt ∈ tbG := tb_at 550 (by decide +kernel) (by decide +kernel)
theorem ms_X0_aimAt : Cond.selects yX0_aimAt.cls yX0_aimAt yX0_aimAt ∈ tbG := tb_at 551 (by decide +kernel) (by decide +kernel)
theorem mf_X0_dueDots : MF yX0_dueDots cX0_dueDots 1 (some .int) 0 := ⟨tb_at 556 (by decide +kernel) (by decide +kernel), tb_at 51 (by decide +kernel) (by decide +kernel), by decide +kernel, by decide +kernel⟩
theorem mi_X0_dueDots : Cond.instanceMethod yX0_dueDots ∈ tbG := tb_at 554 (by decide +kernel) (by decide +kernel)
theorem ms_X0_dueDots : Cond.selects yX0_dueDots.cls yX0_dueDots yX0_dueDots ∈ tbG := tb_at 555 (by decide +kernel) (by decide +kernel)
theorem mf_X9_darken : MF yX9_darken cX9_darken 1 (some .int) 0 := ⟨tb_at 561 (by decide +kernel) (by decide +kernel), tb_at 49 (by decide +kernel) (by decide +kernel), by decide +kernel, by decide +kernel⟩
theorem mi_X9_darken : Cond.instanceMethod yX9_darken ∈ tbG := tb_at 559 (by decide +kernel) (by decide +kernel)
theorem ms_X9_darken : Cond.selects yX9_darken.cls yX9_darken yX9_darken ∈ tbG := tb_at 560 (by decide +kernel) (by decide +kernel)
theorem mf_X0_aimAtDark : MF yX0_aimAtDark cX0_aimAtDark 1 none 0 := ⟨tb_at 565 (by decide +kernel) (by decide +kernel), tb_at 51 (by decide +kernel) (by decide +kernel), by decide +kernel, by decide +kernel⟩
theorem mi_X0_aimAtDark : Cond.instanceMethod yX0_aimAtDark ∈ tbG := tb_at 563 (by decide +kernel) (by decide +kernel)
theorem ms_X0_aimAtDark : Cond.selects yX0_aimAtDark.cls yX0_aimAtDark yX0_aimAtDark ∈ tbG := tb_at 564 (by decide +kernel) (by decide +kernel)
theorem mf_X9_jam : MF yX9_jam cX9_jam 3 (some .int) 2 := ⟨tb_at 569 (by decide +kernel) (by decide +kernel), tb_at 49 (by decide +kernel) (by decide +kernel), by decide +kernel, by decide +kernel⟩
theorem mi_X9_jam : Cond.instanceMethod yX9_jam ∈ tbG := tb_at 567 (by decide +kernel) (by decide +kernel)
theorem ms_X9_jam : Cond.selects yX9_jam.cls yX9_jam yX9_jam ∈ tbG := tb_at 568 (by decide +kernel) (by decide +kernel)
theorem mf_X0_hasDot : MF yX0_hasDot cX0_hasDot 3 (some .boolean) 2 := ⟨tb_at 573 (by decide +kernel) (by decide +kernel), tb_at 51 (by decide +kernel) (by decide +kernel), by decide +kernel, by decide +kernel⟩
theorem mi_X0_hasDot : Cond.instanceMethod yX0_hasDot ∈ tbG := tb_at 571 (by decide +kernel) (by decide +kernel)
theorem ms_X0_hasDot : Cond.selects yX0_hasDot.cls yX0_hasDot yX0_hasDot ∈ tbG := tb_at 572 (by decide +kernel) (by decide +kernel)
theorem mf_X0_hasColumn : MF yX0_hasColumn cX0_hasColumn 2 (some .boolean) 1 := ⟨tb_at 577 (by decide +kernel) (by decide +kernel), tb_at 51 (by decide +kernel) (by decide +kernel), by decide +kernel, by decide +kernel⟩
theorem mi_X0_hasColumn : Cond.instanceMethod yX0_hasColumn ∈ tbG := tb_at 575 (by decide +kernel) (by decide +kernel)
theorem ms_X0_hasColumn : Cond.selects yX0_hasColumn.cls yX0_hasColumn yX0_hasColumn ∈ tbG := tb_at 576 (by decide +kernel) (by decide +kernel)
theorem mf_X0_isStuck : MF yX0_isStuck cX0_isStuck 3 (some .boolean) 2 := ⟨tb_at 581 (by decide +kernel) (by decide +kernel), tb_at 51 (by decide +kernel) (by decide +kernel), by decide +kernel, by decide +kernel⟩
theorem mi_X0_isStuck : Cond.instanceMethod yX0_isStuck ∈ tbG := tb_at 579 (by decide +kernel) (by decide +kernel)
theorem ms_X0_isStuck : Cond.selects yX0_isStuck.cls yX0_isStuck yX0_isStuck ∈ tbG := tb_at 580 (by decide +kernel) (by decide +kernel)
theorem mf_X0_stick : MF yX0_stick cX0_stick 3 none 2 := ⟨tb_at 586 (by decide +kernel) (by decide +kernel), tb_at 51 (by decide +kernel) (by decide +kernel), by decide +kernel, by decide +kernel⟩
theorem mi_X0_stick : Cond.instanceMethod yX0_stick ∈ tbG := tb_at 584 (by decide +kernel) (by decide +kernel)
theorem ms_X0_stick : Cond.selects yX0_stick.cls yX0_stick yX0_stick ∈ tbG := tb_at 585 (by decide +kernel) (by decide +kernel)
theorem mf_X0_flipsOf : MF yX0_flipsOf cX0_flipsOf 3 (some .int) 2 := ⟨tb_at 590 (by decide +kernel) (by decide +kernel), tb_at 51 (by decide +kernel) (by decide +kernel), by decide +kernel, by decide +kernel⟩
theorem mi_X0_flipsOf : Cond.instanceMethod yX0_flipsOf ∈ tbG := tb_at 588 (by decide +kernel) (by decide +kernel)
theorem ms_X0_flipsOf : Cond.selects yX0_flipsOf.cls yX0_flipsOf yX0_flipsOf ∈ tbG := tb_at 589 (by decide +kernel) (by decide +kernel)
theorem mf_X9_mend : MF yX9_mend cX9_mend 4 (some .int) 2 := ⟨tb_at 594 (by decide +kernel) (by decide +kernel), tb_at 49 (by decide +kernel) (by decide +kernel), by decide +kernel, by decide +kernel⟩
theorem mi_X9_mend : Cond.instanceMethod yX9_mend ∈ tbG := tb_at 592 (by decide +kernel) (by decide +kernel)
theorem ms_X9_mend : Cond.selects yX9_mend.cls yX9_mend yX9_mend ∈ tbG := tb_at 593 (by decide +kernel) (by decide +kernel)
theorem mf_X0_renewDot : MF yX0_renewDot cX0_renewDot 3 none 2 := ⟨tb_at 598 (by decide +kernel) (by decide +kernel), tb_at 51 (by decide +kernel) (by decide +kernel), by decide +kernel, by decide +kernel⟩
theorem mi_X0_renewDot : Cond.instanceMethod yX0_renewDot ∈ tbG := tb_at 596 (by decide +kernel) (by decide +kernel)
theorem ms_X0_renewDot : Cond.selects yX0_renewDot.cls yX0_renewDot yX0_renewDot ∈ tbG := tb_at 597 (by decide +kernel) (by decide +kernel)
theorem mf_X9_pass : MF yX9_pass cX9_pass 3 (some .int) 1 := ⟨tb_at 602 (by decide +kernel) (by decide +kernel), tb_at 49 (by decide +kernel) (by decide +kernel), by decide +kernel, by decide +kernel⟩
theorem mi_X9_pass : Cond.instanceMethod yX9_pass ∈ tbG := tb_at 600 (by decide +kernel) (by decide +kernel)
theorem ms_X9_pass : Cond.selects yX9_pass.cls yX9_pass yX9_pass ∈ tbG := tb_at 601 (by decide +kernel) (by decide +kernel)
theorem mf_X1_passSecond : MF yX1_passSecond cX1_passSecond 6 none 1 := ⟨tb_at 606 (by decide +kernel) (by decide +kernel), tb_at 56 (by decide +kernel) (by decide +kernel), by decide +kernel, by decide +kernel⟩
theorem mi_X1_passSecond : Cond.instanceMethod yX1_passSecond ∈ tbG := tb_at 604 (by decide +kernel) (by decide +kernel)
theorem ms_X1_passSecond : Cond.selects yX1_passSecond.cls yX1_passSecond yX1_passSecond ∈ tbG := tb_at 605 (by decide +kernel) (by decide +kernel)
theorem mf_X1_arrange : MF yX1_arrange cX1_arrange 4 none 2 := ⟨tb_at 610 (by decide +kernel) (by decide +kernel), tb_at 56 (by decide +kernel) (by decide +kernel), by decide +kernel, by decide +kernel⟩
theorem mi_X1_arrange : Cond.instanceMethod yX1_arrange ∈ tbG := tb_at 609 (by decide +kernel) (by decide +kernel)
theorem ms_X1_arrange : Cond.selects yX1_arrange.cls yX1_arrange yX1_arrange ∈ tbG := tb_at 8 (by decide +kernel) (by decide +kernel)
theorem mf_X1_arrangeByDueDots : MF yX1_arrangeByDueDots cX1_arrangeByDueDots 6 none 1 := ⟨tb_at 614 (by decide +kernel) (by decide +kernel), tb_at 56 (by decide +kernel) (by decide +kernel), by decide +kernel, by decide +kernel⟩
theorem mi_X1_arrangeByDueDots : Cond.instanceMethod yX1_arrangeByDueDots ∈ tbG := tb_at 613 (by decide +kernel) (by decide +kernel)
theorem ms_X1_arrangeByDueDots : Cond.selects yX1_arrangeByDueDots.cls yX1_arrangeByDueDots yX1_arrangeByDueDots ∈ tbG := tb_at 9 (by decide +kernel) (by decide +kernel)
theorem mf_X0_dueBits : MF yX0_dueBits cX0_dueBits 2 (some .int) 1 := ⟨tb_at 618 (by decide +kernel) (by decide +kernel), tb_at 51 (by decide +kernel) (by decide +kernel), by decide +kernel, by decide +kernel⟩
theorem mi_X0_dueBits : Cond.instanceMethod yX0_dueBits ∈ tbG := tb_at 616 (by decide +kernel) (by decide +kernel)
theorem ms_X0_dueBits : Cond.selects yX0_dueBits.cls yX0_dueBits yX0_dueBits ∈ tbG := tb_at 617 (by decide +kernel) (by decide +kernel)
theorem mf_X1_flipColumn : MF yX1_flipColumn cX1_flipColumn 7 (some .int) 3 := ⟨tb_at 623 (by decide +kernel) (by decide +kernel), tb_at 56 (by decide +kernel) (by decide +kernel), by decide +kernel, by decide +kernel⟩
theorem mi_X1_flipColumn : Cond.instanceMethod yX1_flipColumn ∈ tbG := tb_at 622 (by decide +kernel) (by decide +kernel)
theorem ms_X1_flipColumn : Cond.selects yX1_flipColumn.cls yX1_flipColumn yX1_flipColumn ∈ tbG := tb_at 10 (by decide +kernel) (by decide +kernel)
theorem mf_X8_tryDot : MF yX8_tryDot cX8_tryDot 3 none 2 := ⟨tb_at 627 (by decide +kernel) (by decide +kernel), tb_at 50 (by decide +kernel) (by decide +kernel), by decide +kernel, by decide +kernel⟩
theorem mi_X8_tryDot : Cond.instanceMethod yX8_tryDot ∈ tbG := tb_at 625 (by decide +kernel) (by decide +kernel)
theorem ms_X8_tryDot : Cond.selects yX8_tryDot.cls yX8_tryDot yX8_tryDot ∈ tbG := tb_at 626 (by decide +kernel) (by decide +kernel)
theorem mf_X0_makeKnown : MF yX0_makeKnown cX0_makeKnown 3 none 2 := ⟨tb_at 632 (by decide +kernel) (by decide +kernel), tb_at 51 (by decide +kernel) (by decide +kernel), by decide +kernel, by decide +kernel⟩
theorem mi_X0_makeKnown : Cond.instanceMethod yX0_makeKnown ∈ tbG := tb_at 630 (by decide +kernel) (by decide +kernel)
theorem ms_X0_makeKnown : Cond.selects yX0_makeKnown.cls yX0_makeKnown yX0_makeKnown ∈ tbG := tb_at 631 (by decide +kernel) (by decide +kernel)
theorem mf_X0_flip : MF yX0_flip cX0_flip 3 none 2 := ⟨tb_at 636 (by decide +kernel) (by decide +kernel), tb_at 51 (by decide +kernel) (by decide +kernel), by decide +kernel, by decide +kernel⟩
theorem mi_X0_flip : Cond.instanceMethod yX0_flip ∈ tbG := tb_at 634 (by decide +kernel) (by decide +kernel)
theorem ms_X0_flip : Cond.selects yX0_flip.cls yX0_flip yX0_flip ∈ tbG := tb_at 635 (by decide +kernel) (by decide +kernel)
theorem mf_X3_addSecond : MF yX3_addSecond cX3_addSecond 2 none 1 := ⟨tb_at 642 (by decide +kernel) (by decide +kernel), tb_at 52 (by decide +kernel) (by decide +kernel), by decide +kernel, by decide +kernel⟩
theorem mi_X3_addSecond : Cond.instanceMethod yX3_addSecond ∈ tbG := tb_at 640 (by decide +kernel) (by decide +kernel)
theorem ms_X3_addSecond : Cond.selects yX3_addSecond.cls yX3_addSecond yX3_addSecond ∈ tbG := tb_at 641 (by decide +kernel) (by decide +kernel)
theorem mf_X9_count : MF yX9_count cX9_count 2 (some .int) 1 := ⟨tb_at 647 (by decide +kernel) (by decide +kernel), tb_at 49 (by decide +kernel) (by decide +kernel), by decide +kernel, by decide +kernel⟩
theorem mi_X9_count : Cond.instanceMethod yX9_count ∈ tbG := tb_at 645 (by decide +kernel) (by decide +kernel)
theorem ms_X9_count : Cond.selects yX9_count.cls yX9_count yX9_count ∈ tbG := tb_at 646 (by decide +kernel) (by decide +kernel)
theorem mf_X0_stuckDots : MF yX0_stuckDots cX0_stuckDots 1 (some .int) 0 := ⟨tb_at 651 (by decide +kernel) (by decide +kernel), tb_at 51 (by decide +kernel) (by decide +kernel), by decide +kernel, by decide +kernel⟩
theorem mi_X0_stuckDots : Cond.instanceMethod yX0_stuckDots ∈ tbG := tb_at 649 (by decide +kernel) (by decide +kernel)
theorem ms_X0_stuckDots : Cond.selects yX0_stuckDots.cls yX0_stuckDots yX0_stuckDots ∈ tbG := tb_at 650 (by decide +kernel) (by decide +kernel)
theorem mf_X0_dotsIn : MF yX0_dotsIn cX0_dotsIn 3 (some .int) 1 := ⟨tb_at 654 (by decide +kernel) (by decide +kernel), tb_at 51 (by decide +kernel) (by decide +kernel), by decide +kernel, by decide +kernel⟩
theorem mt_X0_dotsIn : Cond.static yX0_dotsIn ∈ tbG := tb_at 653 (by decide +kernel) (by decide +kernel)
theorem mf_X0_knownDots : MF yX0_knownDots cX0_knownDots 1 (some .int) 0 := ⟨tb_at 658 (by decide +kernel) (by decide +kernel), tb_at 51 (by decide +kernel) (by decide +kernel), by decide +kernel, by decide +kernel⟩
theorem mi_X0_knownDots : Cond.instanceMethod yX0_knownDots ∈ tbG := tb_at 656 (by decide +kernel) (by decide +kernel)
theorem ms_X0_knownDots : Cond.selects yX0_knownDots.cls yX0_knownDots yX0_knownDots ∈ tbG := tb_at 657 (by decide +kernel) (by decide +kernel)
theorem mf_X0_otherDots : MF yX0_otherDots cX0_otherDots 3 (some .int) 0 := ⟨tb_at 662 (by decide +kernel) (by decide +kernel), tb_at 51 (by decide +kernel) (by decide +kernel), by decide +kernel, by decide +kernel⟩
theorem mi_X0_otherDots : Cond.instanceMethod yX0_otherDots ∈ tbG := tb_at 660 (by decide +kernel) (by decide +kernel)
theorem ms_X0_otherDots : Cond.selects yX0_otherDots.cls yX0_otherDots yX0_otherDots ∈ tbG := tb_at 661 (by decide +kernel) (by decide +kernel)
theorem mf_X9_column : MF yX9_column cX9_column 3 (some .int) 2 := ⟨tb_at 666 (by decide +kernel) (by decide +kernel), tb_at 49 (by decide +kernel) (by decide +kernel), by decide +kernel, by decide +kernel⟩
theorem mi_X9_column : Cond.instanceMethod yX9_column ∈ tbG := tb_at 664 (by decide +kernel) (by decide +kernel)
theorem ms_X9_column : Cond.selects yX9_column.cls yX9_column yX9_column ∈ tbG := tb_at 665 (by decide +kernel) (by decide +kernel)
theorem mf_X9_flips : MF yX9_flips cX9_flips 3 (some .int) 2 := ⟨tb_at 671 (by decide +kernel) (by decide +kernel), tb_at 49 (by decide +kernel) (by decide +kernel), by decide +kernel, by decide +kernel⟩
theorem mi_X9_flips : Cond.instanceMethod yX9_flips ∈ tbG := tb_at 669 (by decide +kernel) (by decide +kernel)
theorem ms_X9_flips : Cond.selects yX9_flips.cls yX9_flips yX9_flips ∈ tbG := tb_at 670 (by decide +kernel) (by decide +kernel)
theorem mf_X9_letter : MF yX9_letter cX9_letter 3 (some .int) 2 := ⟨tb_at 675 (by decide +kernel) (by decide +kernel), tb_at 49 (by decide +kernel) (by decide +kernel), by decide +kernel, by decide +kernel⟩
theorem mi_X9_letter : Cond.instanceMethod yX9_letter ∈ tbG := tb_at 673 (by decide +kernel) (by decide +kernel)
theorem ms_X9_letter : Cond.selects yX9_letter.cls yX9_letter yX9_letter ∈ tbG := tb_at 674 (by decide +kernel) (by decide +kernel)
theorem mf_X9_message : MF yX9_message cX9_message 3 (some .int) 2 := ⟨tb_at 680 (by decide +kernel) (by decide +kernel), tb_at 49 (by decide +kernel) (by decide +kernel), by decide +kernel, by decide +kernel⟩
theorem mi_X9_message : Cond.instanceMethod yX9_message ∈ tbG := tb_at 678 (by decide +kernel) (by decide +kernel)
theorem ms_X9_message : Cond.selects yX9_message.cls yX9_message yX9_message ∈ tbG := tb_at 679 (by decide +kernel) (by decide +kernel)
theorem mf_X9_strip : MF yX9_strip cX9_strip 2 (some .int) 1 := ⟨tb_at 686 (by decide +kernel) (by decide +kernel), tb_at 49 (by decide +kernel) (by decide +kernel), by decide +kernel, by decide +kernel⟩
theorem mi_X9_strip : Cond.instanceMethod yX9_strip ∈ tbG := tb_at 684 (by decide +kernel) (by decide +kernel)
theorem ms_X9_strip : Cond.selects yX9_strip.cls yX9_strip yX9_strip ∈ tbG := tb_at 685 (by decide +kernel) (by decide +kernel)
theorem mf_X9_picture : MF yX9_picture cX9_picture 4 (some .int) 3 := ⟨tb_at 691 (by decide +kernel) (by decide +kernel), tb_at 49 (by decide +kernel) (by decide +kernel), by decide +kernel, by decide +kernel⟩
theorem mi_X9_picture : Cond.instanceMethod yX9_picture ∈ tbG := tb_at 689 (by decide +kernel) (by decide +kernel)
theorem ms_X9_picture : Cond.selects yX9_picture.cls yX9_picture yX9_picture ∈ tbG := tb_at 690 (by decide +kernel) (by decide +kernel)
theorem mf_X9_power : MF yX9_power cX9_power 2 (some .int) 1 := ⟨tb_at 696 (by decide +kernel) (by decide +kernel), tb_at 49 (by decide +kernel) (by decide +kernel), by decide +kernel, by decide +kernel⟩
theorem mi_X9_power : Cond.instanceMethod yX9_power ∈ tbG := tb_at 694 (by decide +kernel) (by decide +kernel)
theorem ms_X9_power : Cond.selects yX9_power.cls yX9_power yX9_power ∈ tbG := tb_at 695 (by decide +kernel) (by decide +kernel)
theorem mf_X3_powerOf : MF yX3_powerOf cX3_powerOf 2 (some .int) 1 := ⟨tb_at 700 (by decide +kernel) (by decide +kernel), tb_at 52 (by decide +kernel) (by decide +kernel), by decide +kernel, by decide +kernel⟩
theorem mi_X3_powerOf : Cond.instanceMethod yX3_powerOf ∈ tbG := tb_at 698 (by decide +kernel) (by decide +kernel)
theorem ms_X3_powerOf : Cond.selects yX3_powerOf.cls yX3_powerOf yX3_powerOf ∈ tbG := tb_at 699 (by decide +kernel) (by decide +kernel)
theorem mf_X9_bestShift : MF yX9_bestShift cX9_bestShift 2 (some .int) 1 := ⟨tb_at 704 (by decide +kernel) (by decide +kernel), tb_at 49 (by decide +kernel) (by decide +kernel), by decide +kernel, by decide +kernel⟩
theorem mi_X9_bestShift : Cond.instanceMethod yX9_bestShift ∈ tbG := tb_at 702 (by decide +kernel) (by decide +kernel)
theorem ms_X9_bestShift : Cond.selects yX9_bestShift.cls yX9_bestShift yX9_bestShift ∈ tbG := tb_at 703 (by decide +kernel) (by decide +kernel)
theorem mf_X9_due : MF yX9_due cX9_due 3 (some .int) 2 := ⟨tb_at 709 (by decide +kernel) (by decide +kernel), tb_at 49 (by decide +kernel) (by decide +kernel), by decide +kernel, by decide +kernel⟩
theorem mi_X9_due : Cond.instanceMethod yX9_due ∈ tbG := tb_at 707 (by decide +kernel) (by decide +kernel)
theorem ms_X9_due : Cond.selects yX9_due.cls yX9_due yX9_due ∈ tbG := tb_at 708 (by decide +kernel) (by decide +kernel)
theorem mf_X9_secondsFor : MF yX9_secondsFor cX9_secondsFor 4 (some .int) 2 := ⟨tb_at 714 (by decide +kernel) (by decide +kernel), tb_at 49 (by decide +kernel) (by decide +kernel), by decide +kernel, by decide +kernel⟩
theorem mi_X9_secondsFor : Cond.instanceMethod yX9_secondsFor ∈ tbG := tb_at 712 (by decide +kernel) (by decide +kernel)
theorem ms_X9_secondsFor : Cond.selects yX9_secondsFor.cls yX9_secondsFor yX9_secondsFor ∈ tbG := tb_at 713 (by decide +kernel) (by decide +kernel)
theorem mf_X9_between : MF yX9_between cX9_between 3 (some .int) 2 := ⟨tb_at 719 (by decide +kernel) (by decide +kernel), tb_at 49 (by decide +kernel) (by decide +kernel), by decide +kernel, by decide +kernel⟩
theorem mi_X9_between : Cond.instanceMethod yX9_between ∈ tbG := tb_at 717 (by decide +kernel) (by decide +kernel)
theorem ms_X9_between : Cond.selects yX9_between.cls yX9_between yX9_between ∈ tbG := tb_at 718 (by decide +kernel) (by decide +kernel)
theorem mf_X9_bestOrder : MF yX9_bestOrder cX9_bestOrder 3 (some .int) 2 := ⟨tb_at 723 (by decide +kernel) (by decide +kernel), tb_at 49 (by decide +kernel) (by decide +kernel), by decide +kernel, by decide +kernel⟩
theorem mi_X9_bestOrder : Cond.instanceMethod yX9_bestOrder ∈ tbG := tb_at 721 (by decide +kernel) (by decide +kernel)
theorem ms_X9_bestOrder : Cond.selects yX9_bestOrder.cls yX9_bestOrder yX9_bestOrder ∈ tbG := tb_at 722 (by decide +kernel) (by decide +kernel)
theorem mf_X9_isSetToOrder : MF yX9_isSetToOrder cX9_isSetToOrder 2 (some .boolean) 1 := ⟨tb_at 727 (by decide +kernel) (by decide +kernel), tb_at 49 (by decide +kernel) (by decide +kernel), by decide +kernel, by decide +kernel⟩
theorem mi_X9_isSetToOrder : Cond.instanceMethod yX9_isSetToOrder ∈ tbG := tb_at 726 (by decide +kernel) (by decide +kernel)
theorem ms_X9_isSetToOrder : Cond.selects yX9_isSetToOrder.cls yX9_isSetToOrder yX9_isSetToOrder ∈ tbG := tb_at 11 (by decide +kernel) (by decide +kernel)
theorem mf_X4_find : MF yX4_find cX4_find 6 none 3 := ⟨tb_at 732 (by decide +kernel) (by decide +kernel), tb_at 58 (by decide +kernel) (by decide +kernel), by decide +kernel, by decide +kernel⟩
theorem mi_X4_find : Cond.instanceMethod yX4_find ∈ tbG := tb_at 730 (by decide +kernel) (by decide +kernel)
theorem ms_X4_find : Cond.selects yX4_find.cls yX4_find yX4_find ∈ tbG := tb_at 731 (by decide +kernel) (by decide +kernel)
theorem mf_X4_gather : MF yX4_gather cX4_gather 5 none 3 := ⟨tb_at 736 (by decide +kernel) (by decide +kernel), tb_at 58 (by decide +kernel) (by decide +kernel), by decide +kernel, by decide +kernel⟩
theorem mi_X4_gather : Cond.instanceMethod yX4_gather ∈ tbG := tb_at 735 (by decide +kernel) (by decide +kernel)
theorem ms_X4_gather : Cond.selects yX4_gather.cls yX4_gather yX4_gather ∈ tbG := tb_at 12 (by decide +kernel) (by decide +kernel)
theorem mf_X4_measure : MF yX4_measure cX4_measure 4 none 1 := ⟨tb_at 742 (by decide +kernel) (by decide +kernel), tb_at 58 (by decide +kernel) (by decide +kernel), by decide +kernel, by decide +kernel⟩
theorem mi_X4_measure : Cond.instanceMethod yX4_measure ∈ tbG := tb_at 741 (by decide +kernel) (by decide +kernel)
theorem ms_X4_measure : Cond.selects yX4_measure.cls yX4_measure yX4_measure ∈ tbG := tb_at 13 (by decide +kernel) (by decide +kernel)
theorem mf_X4_wholeSet : MF yX4_wholeSet cX4_wholeSet 1 (some .int) 0 := ⟨tb_at 747 (by decide +kernel) (by decide +kernel), tb_at 58 (by decide +kernel) (by decide +kernel), by decide +kernel, by decide +kernel⟩
theorem mi_X4_wholeSet : Cond.instanceMethod yX4_wholeSet ∈ tbG := tb_at 746 (by decide +kernel) (by decide +kernel)
theorem ms_X4_wholeSet : Cond.selects yX4_wholeSet.cls yX4_wholeSet yX4_wholeSet ∈ tbG := tb_at 14 (by decide +kernel) (by decide +kernel)
theorem mf_X4_nextBehind : MF yX4_nextBehind cX4_nextBehind 7 (some .int) 2 := ⟨tb_at 751 (by decide +kernel) (by decide +kernel), tb_at 58 (by decide +kernel) (by decide +kernel), by decide +kernel, by decide +kernel⟩
theorem mi_X4_nextBehind : Cond.instanceMethod yX4_nextBehind ∈ tbG := tb_at 750 (by decide +kernel) (by decide +kernel)
theorem ms_X4_nextBehind : Cond.selects yX4_nextBehind.cls yX4_nextBehind yX4_nextBehind ∈ tbG := tb_at 15 (by decide +kernel) (by decide +kernel)
theorem mf_X4_without : MF yX4_without cX4_without 2 (some .int) 2 := ⟨tb_at 755 (by decide +kernel) (by decide +kernel), tb_at 58 (by decide +kernel) (by decide +kernel), by decide +kernel, by decide +kernel⟩
theorem mt_X4_without : Cond.static yX4_without ∈ tbG := tb_at 754 (by decide +kernel) (by decide +kernel)
theorem mf_X4_flipsBy : MF yX4_flipsBy cX4_flipsBy 6 (some .int) 3 := ⟨tb_at 759 (by decide +kernel) (by decide +kernel), tb_at 58 (by decide +kernel) (by decide +kernel), by decide +kernel, by decide +kernel⟩
theorem mi_X4_flipsBy : Cond.instanceMethod yX4_flipsBy ∈ tbG := tb_at 758 (by decide +kernel) (by decide +kernel)
theorem ms_X4_flipsBy : Cond.selects yX4_flipsBy.cls yX4_flipsBy yX4_flipsBy ∈ tbG := tb_at 16 (by decide +kernel) (by decide +kernel)
theorem mf_X4_fewestFlips : MF yX4_fewestFlips cX4_fewestFlips 2 (some .int) 0 := ⟨tb_at 763 (by decide +kernel) (by decide +kernel), tb_at 58 (by decide +kernel) (by decide +kernel), by decide +kernel, by decide +kernel⟩
theorem mi_X4_fewestFlips : Cond.instanceMethod yX4_fewestFlips ∈ tbG := tb_at 761 (by decide +kernel) (by decide +kernel)
theorem ms_X4_fewestFlips : Cond.selects yX4_fewestFlips.cls yX4_fewestFlips yX4_fewestFlips ∈ tbG := tb_at 762 (by decide +kernel) (by decide +kernel)
theorem mf_X4_messageAt : MF yX4_messageAt cX4_messageAt 5 (some .int) 1 := ⟨tb_at 767 (by decide +kernel) (by decide +kernel), tb_at 58 (by decide +kernel) (by decide +kernel), by decide +kernel, by decide +kernel⟩
theorem mi_X4_messageAt : Cond.instanceMethod yX4_messageAt ∈ tbG := tb_at 765 (by decide +kernel) (by decide +kernel)
theorem ms_X4_messageAt : Cond.selects yX4_messageAt.cls yX4_messageAt yX4_messageAt ∈ tbG := tb_at 766 (by decide +kernel) (by decide +kernel)
theorem mf_X9_undo : MF yX9_undo cX9_undo 1 (some .int) 0 := ⟨tb_at 771 (by decide +kernel) (by decide +kernel), tb_at 49 (by decide +kernel) (by decide +kernel), by decide +kernel, by decide +kernel⟩
theorem mi_X9_undo : Cond.instanceMethod yX9_undo ∈ tbG := tb_at 769 (by decide +kernel) (by decide +kernel)
theorem ms_X9_undo : Cond.selects yX9_undo.cls yX9_undo yX9_undo ∈ tbG := tb_at 770 (by decide +kernel) (by decide +kernel)
theorem mf_X2_restore : MF yX2_restore cX2_restore 3 none 1 := ⟨tb_at 775 (by decide +kernel) (by decide +kernel), tb_at 54 (by decide +kernel) (by decide +kernel), by decide +kernel, by decide +kernel⟩
theorem mi_X2_restore : Cond.instanceMethod yX2_restore ∈ tbG := tb_at 773 (by decide +kernel) (by decide +kernel)
theorem ms_X2_restore : Cond.selects yX2_restore.cls yX2_restore yX2_restore ∈ tbG := tb_at 774 (by decide +kernel) (by decide +kernel)
theorem mf_X10_init : MF yX10_init cX10_init 1 none 0 := ⟨tb_at 780 (by decide +kernel) (by decide +kernel), tb_at 59 (by decide +kernel) (by decide +kernel), by decide +kernel, by decide +kernel⟩
theorem mi_X10_init : Cond.instanceMethod yX10_init ∈ tbG := tb_at 779 (by decide +kernel) (by decide +kernel)
theorem mf_X10_begin : MF yX10_begin cX10_begin 4 (some .int) 1 := ⟨tb_at 834 (by decide +kernel) (by decide +kernel), tb_at 59 (by decide +kernel) (by decide +kernel), by decide +kernel, by decide +kernel⟩
theorem mi_X10_begin : Cond.instanceMethod yX10_begin ∈ tbG := tb_at 832 (by decide +kernel) (by decide +kernel)
theorem ms_X10_begin : Cond.selects yX10_begin.cls yX10_begin yX10_begin ∈ tbG := tb_at 833 (by decide +kernel) (by decide +kernel)
theorem mf_X10_in : MF yX10_in cX10_in 3 (some .boolean) 3 := ⟨tb_at 837 (by decide +kernel) (by decide +kernel), tb_at 59 (by decide +kernel) (by decide +kernel), by decide +kernel, by decide +kernel⟩
theorem mt_X10_in : Cond.static yX10_in ∈ tbG := tb_at 836 (by decide +kernel) (by decide +kernel)
theorem mf_X10_hold : MF yX10_hold cX10_hold 1 none 0 := ⟨tb_at 841 (by decide +kernel) (by decide +kernel), tb_at 59 (by decide +kernel) (by decide +kernel), by decide +kernel, by decide +kernel⟩
theorem mi_X10_hold : Cond.instanceMethod yX10_hold ∈ tbG := tb_at 840 (by decide +kernel) (by decide +kernel)
theorem ms_X10_hold : Cond.selects yX10_hold.cls yX10_hold yX10_hold ∈ tbG := tb_at 17 (by decide +kernel) (by decide +kernel)
theorem mf_X10_copies : MF yX10_copies cX10_copies 3 none 2 := ⟨tb_at 844 (by decide +kernel) (by decide +kernel), tb_at 59 (by decide +kernel) (by decide +kernel), by decide +kernel, by decide +kernel⟩
theorem mt_X10_copies : Cond.static yX10_copies ∈ tbG := tb_at 843 (by decide +kernel) (by decide +kernel)
theorem mf_X10_ends : MF yX10_ends cX10_ends 3 (some .int) 1 := ⟨tb_at 848 (by decide +kernel) (by decide +kernel), tb_at 59 (by decide +kernel) (by decide +kernel), by decide +kernel, by decide +kernel⟩
theorem mi_X10_ends : Cond.instanceMethod yX10_ends ∈ tbG := tb_at 847 (by decide +kernel) (by decide +kernel)
theorem ms_X10_ends : Cond.selects yX10_ends.cls yX10_ends yX10_ends ∈ tbG := tb_at 18 (by decide +kernel) (by decide +kernel)
theorem mf_X10_setNumber : MF yX10_setNumber cX10_setNumber 4 (some .int) 2 := ⟨tb_at 852 (by decide +kernel) (by decide +kernel), tb_at 59 (by decide +kernel) (by decide +kernel), by decide +kernel, by decide +kernel⟩
theorem mi_X10_setNumber : Cond.instanceMethod yX10_setNumber ∈ tbG := tb_at 850 (by decide +kernel) (by decide +kernel)
theorem ms_X10_setNumber : Cond.selects yX10_setNumber.cls yX10_setNumber yX10_setNumber ∈ tbG := tb_at 851 (by decide +kernel) (by decide +kernel)
theorem mf_X10_isNumber : MF yX10_isNumber cX10_isNumber 2 (some .boolean) 2 := ⟨tb_at 855 (by decide +kernel) (by decide +kernel), tb_at 59 (by decide +kernel) (by decide +kernel), by decide +kernel, by decide +kernel⟩
theorem mt_X10_isNumber : Cond.static yX10_isNumber ∈ tbG := tb_at 854 (by decide +kernel) (by decide +kernel)
theorem mf_X10_setColumn : MF yX10_setColumn cX10_setColumn 5 (some .int) 3 := ⟨tb_at 859 (by decide +kernel) (by decide +kernel), tb_at 59 (by decide +kernel) (by decide +kernel), by decide +kernel, by decide +kernel⟩
theorem mi_X10_setColumn : Cond.instanceMethod yX10_setColumn ∈ tbG := tb_at 857 (by decide +kernel) (by decide +kernel)
theorem ms_X10_setColumn : Cond.selects yX10_setColumn.cls yX10_setColumn yX10_setColumn ∈ tbG := tb_at 858 (by decide +kernel) (by decide +kernel)
theorem mf_X10_addMessage : MF yX10_addMessage cX10_addMessage 4 (some .int) 2 := ⟨tb_at 863 (by decide +kernel) (by decide +kernel), tb_at 59 (by decide +kernel) (by decide +kernel), by decide +kernel, by decide +kernel⟩
theorem mi_X10_addMessage : Cond.instanceMethod yX10_addMessage ∈ tbG := tb_at 861 (by decide +kernel) (by decide +kernel)
theorem ms_X10_addMessage : Cond.selects yX10_addMessage.cls yX10_addMessage yX10_addMessage ∈ tbG := tb_at 862 (by decide +kernel) (by decide +kernel)
theorem mf_X10_removeMessage : MF yX10_removeMessage cX10_removeMessage 3 (some .int) 1 := ⟨tb_at 867 (by decide +kernel) (by decide +kernel), tb_at 59 (by decide +kernel) (by decide +kernel), by decide +kernel, by decide +kernel⟩
theorem mi_X10_removeMessage : Cond.instanceMethod yX10_removeMessage ∈ tbG := tb_at 865 (by decide +kernel) (by decide +kernel)
theorem ms_X10_removeMessage : Cond.selects yX10_removeMessage.cls yX10_removeMessage yX10_removeMessage ∈ tbG := tb_at 866 (by decide +kernel) (by decide +kernel)
theorem mf_X10_isMessage : MF yX10_isMessage cX10_isMessage 2 (some .boolean) 1 := ⟨tb_at 871 (by decide +kernel) (by decide +kernel), tb_at 59 (by decide +kernel) (by decide +kernel), by decide +kernel, by decide +kernel⟩
theorem mi_X10_isMessage : Cond.instanceMethod yX10_isMessage ∈ tbG := tb_at 870 (by decide +kernel) (by decide +kernel)
theorem ms_X10_isMessage : Cond.selects yX10_isMessage.cls yX10_isMessage yX10_isMessage ∈ tbG := tb_at 19 (by decide +kernel) (by decide +kernel)
theorem mf_X10_appendCharacter : MF yX10_appendCharacter cX10_appendCharacter 2 (some .int) 1 := ⟨tb_at 875 (by decide +kernel) (by decide +kernel), tb_at 59 (by decide +kernel) (by decide +kernel), by decide +kernel, by decide +kernel⟩
theorem mi_X10_appendCharacter : Cond.instanceMethod yX10_appendCharacter ∈ tbG := tb_at 873 (by decide +kernel) (by decide +kernel)
theorem ms_X10_appendCharacter : Cond.selects yX10_appendCharacter.cls yX10_appendCharacter yX10_appendCharacter ∈ tbG := tb_at 874 (by decide +kernel) (by decide +kernel)
theorem mf_X10_clearText : MF yX10_clearText cX10_clearText 2 (some .int) 0 := ⟨tb_at 879 (by decide +kernel) (by decide +kernel), tb_at 59 (by decide +kernel) (by decide +kernel), by decide +kernel, by decide +kernel⟩
theorem mi_X10_clearText : Cond.instanceMethod yX10_clearText ∈ tbG := tb_at 877 (by decide +kernel) (by decide +kernel)
theorem ms_X10_clearText : Cond.selects yX10_clearText.cls yX10_clearText yX10_clearText ∈ tbG := tb_at 878 (by decide +kernel) (by decide +kernel)
theorem mf_X10_load : MF yX10_load cX10_load 3 (some .int) 0 := ⟨tb_at 883 (by decide +kernel) (by decide +kernel), tb_at 59 (by decide +kernel) (by decide +kernel), by decide +kernel, by decide +kernel⟩
theorem mi_X10_load : Cond.instanceMethod yX10_load ∈ tbG := tb_at 881 (by decide +kernel) (by decide +kernel)
theorem ms_X10_load : Cond.selects yX10_load.cls yX10_load yX10_load ∈ tbG := tb_at 882 (by decide +kernel) (by decide +kernel)
theorem mf_X10_skips : MF yX10_skips cX10_skips 1 none 0 := ⟨tb_at 887 (by decide +kernel) (by decide +kernel), tb_at 59 (by decide +kernel) (by decide +kernel), by decide +kernel, by decide +kernel⟩
theorem mi_X10_skips : Cond.instanceMethod yX10_skips ∈ tbG := tb_at 886 (by decide +kernel) (by decide +kernel)
theorem ms_X10_skips : Cond.selects yX10_skips.cls yX10_skips yX10_skips ∈ tbG := tb_at 20 (by decide +kernel) (by decide +kernel)
theorem mf_X10_here : MF yX10_here cX10_here 1 (some .int) 0 := ⟨tb_at 891 (by decide +kernel) (by decide +kernel), tb_at 59 (by decide +kernel) (by decide +kernel), by decide +kernel, by decide +kernel⟩
theorem mi_X10_here : Cond.instanceMethod yX10_here ∈ tbG := tb_at 890 (by decide +kernel) (by decide +kernel)
theorem ms_X10_here : Cond.selects yX10_here.cls yX10_here yX10_here ∈ tbG := tb_at 21 (by decide +kernel) (by decide +kernel)
theorem mf_X10_isLetter : MF yX10_isLetter cX10_isLetter 5 (some .boolean) 0 := ⟨tb_at 895 (by decide +kernel) (by decide +kernel), tb_at 59 (by decide +kernel) (by decide +kernel), by decide +kernel, by decide +kernel⟩
theorem mi_X10_isLetter : Cond.instanceMethod yX10_isLetter ∈ tbG := tb_at 894 (by decide +kernel) (by decide +kernel)
theorem ms_X10_isLetter : Cond.selects yX10_isLetter.cls yX10_isLetter yX10_isLetter ∈ tbG := tb_at 22 (by decide +kernel) (by decide +kernel)
theorem mf_X10_digitOf : MF yX10_digitOf cX10_digitOf 1 (some .int) 1 := ⟨tb_at 898 (by decide +kernel) (by decide +kernel), tb_at 59 (by decide +kernel) (by decide +kernel), by decide +kernel, by decide +kernel⟩
theorem mt_X10_digitOf : Cond.static yX10_digitOf ∈ tbG := tb_at 897 (by decide +kernel) (by decide +kernel)
theorem mf_X10_isText : MF yX10_isText cX10_isText 4 (some .boolean) 0 := ⟨tb_at 902 (by decide +kernel) (by decide +kernel), tb_at 59 (by decide +kernel) (by decide +kernel), by decide +kernel, by decide +kernel⟩
theorem mi_X10_isText : Cond.instanceMethod yX10_isText ∈ tbG := tb_at 901 (by decide +kernel) (by decide +kernel)
theorem ms_X10_isText : Cond.selects yX10_isText.cls yX10_isText yX10_isText ∈ tbG := tb_at 23 (by decide +kernel) (by decide +kernel)
theorem mf_X10_show : MF yX10_show cX10_show 3 (some .int) 2 := ⟨tb_at 906 (by decide +kernel) (by decide +kernel), tb_at 59 (by decide +kernel) (by decide +kernel), by decide +kernel, by decide +kernel⟩
theorem mi_X10_show : Cond.instanceMethod yX10_show ∈ tbG := tb_at 904 (by decide +kernel) (by decide +kernel)
theorem ms_X10_show : Cond.selects yX10_show.cls yX10_show yX10_show ∈ tbG := tb_at 905 (by decide +kernel) (by decide +kernel)
theorem mf_X10_isShow : MF yX10_isShow cX10_isShow 3 (some .boolean) 2 := ⟨tb_at 910 (by decide +kernel) (by decide +kernel), tb_at 59 (by decide +kernel) (by decide +kernel), by decide +kernel, by decide +kernel⟩
theorem mi_X10_isShow : Cond.instanceMethod yX10_isShow ∈ tbG := tb_at 909 (by decide +kernel) (by decide +kernel)
theorem ms_X10_isShow : Cond.selects yX10_isShow.cls yX10_isShow yX10_isShow ∈ tbG := tb_at 24 (by decide +kernel) (by decide +kernel)
theorem mf_X10_aims : MF yX10_aims cX10_aims 4 none 2 := ⟨tb_at 914 (by decide +kernel) (by decide +kernel), tb_at 59 (by decide +kernel) (by decide +kernel), by decide +kernel, by decide +kernel⟩
theorem mi_X10_aims : Cond.instanceMethod yX10_aims ∈ tbG := tb_at 913 (by decide +kernel) (by decide +kernel)
theorem ms_X10_aims : Cond.selects yX10_aims.cls yX10_aims yX10_aims ∈ tbG := tb_at 25 (by decide +kernel) (by decide +kernel)
theorem mf_X10_shiftFor : MF yX10_shiftFor cX10_shiftFor 3 (some .int) 2 := ⟨tb_at 918 (by decide +kernel) (by decide +kernel), tb_at 59 (by decide +kernel) (by decide +kernel), by decide +kernel, by decide +kernel⟩
theorem mi_X10_shiftFor : Cond.instanceMethod yX10_shiftFor ∈ tbG := tb_at 917 (by decide +kernel) (by decide +kernel)
theorem ms_X10_shiftFor : Cond.selects yX10_shiftFor.cls yX10_shiftFor yX10_shiftFor ∈ tbG := tb_at 26 (by decide +kernel) (by decide +kernel)
theorem mf_X10_bestOf : MF yX10_bestOf cX10_bestOf 9 (some .int) 1 := ⟨tb_at 922 (by decide +kernel) (by decide +kernel), tb_at 59 (by decide +kernel) (by decide +kernel), by decide +kernel, by decide +kernel⟩
theorem mi_X10_bestOf : Cond.instanceMethod yX10_bestOf ∈ tbG := tb_at 921 (by decide +kernel) (by decide +kernel)
theorem ms_X10_bestOf : Cond.selects yX10_bestOf.cls yX10_bestOf yX10_bestOf ∈ tbG := tb_at 27 (by decide +kernel) (by decide +kernel)
theorem mf_X10_lays : MF yX10_lays cX10_lays 9 none 3 := ⟨tb_at 926 (by decide +kernel) (by decide +kernel), tb_at 59 (by decide +kernel) (by decide +kernel), by decide +kernel, by decide +kernel⟩
theorem mi_X10_lays : Cond.instanceMethod yX10_lays ∈ tbG := tb_at 925 (by decide +kernel) (by decide +kernel)
theorem ms_X10_lays : Cond.selects yX10_lays.cls yX10_lays yX10_lays ∈ tbG := tb_at 28 (by decide +kernel) (by decide +kernel)
theorem mf_X10_stripOf : MF yX10_stripOf cX10_stripOf 4 (some .int) 1 := ⟨tb_at 930 (by decide +kernel) (by decide +kernel), tb_at 59 (by decide +kernel) (by decide +kernel), by decide +kernel, by decide +kernel⟩
theorem mi_X10_stripOf : Cond.instanceMethod yX10_stripOf ∈ tbG := tb_at 929 (by decide +kernel) (by decide +kernel)
theorem ms_X10_stripOf : Cond.selects yX10_stripOf.cls yX10_stripOf yX10_stripOf ∈ tbG := tb_at 29 (by decide +kernel) (by decide +kernel)
theorem mf_X10_lengthOf : MF yX10_lengthOf cX10_lengthOf 2 (some .int) 1 := ⟨tb_at 934 (by decide +kernel) (by decide +kernel), tb_at 59 (by decide +kernel) (by decide +kernel), by decide +kernel, by decide +kernel⟩
theorem mi_X10_lengthOf : Cond.instanceMethod yX10_lengthOf ∈ tbG := tb_at 933 (by decide +kernel) (by decide +kernel)
theorem ms_X10_lengthOf : Cond.selects yX10_lengthOf.cls yX10_lengthOf yX10_lengthOf ∈ tbG := tb_at 30 (by decide +kernel) (by decide +kernel)
theorem mf_X10_characterOf : MF yX10_characterOf cX10_characterOf 3 (some .int) 2 := ⟨tb_at 938 (by decide +kernel) (by decide +kernel), tb_at 59 (by decide +kernel) (by decide +kernel), by decide +kernel, by decide +kernel⟩
theorem mi_X10_characterOf : Cond.instanceMethod yX10_characterOf ∈ tbG := tb_at 937 (by decide +kernel) (by decide +kernel)
theorem ms_X10_characterOf : Cond.selects yX10_characterOf.cls yX10_characterOf yX10_characterOf ∈ tbG := tb_at 31 (by decide +kernel) (by decide +kernel)
theorem mf_X10_wideOf : MF yX10_wideOf cX10_wideOf 2 (some .int) 1 := ⟨tb_at 942 (by decide +kernel) (by decide +kernel), tb_at 59 (by decide +kernel) (by decide +kernel), by decide +kernel, by decide +kernel⟩
theorem mi_X10_wideOf : Cond.instanceMethod yX10_wideOf ∈ tbG := tb_at 941 (by decide +kernel) (by decide +kernel)
theorem ms_X10_wideOf : Cond.selects yX10_wideOf.cls yX10_wideOf yX10_wideOf ∈ tbG := tb_at 32 (by decide +kernel) (by decide +kernel)
theorem mf_X10_isColumn : MF yX10_isColumn cX10_isColumn 2 (some .boolean) 1 := ⟨tb_at 946 (by decide +kernel) (by decide +kernel), tb_at 59 (by decide +kernel) (by decide +kernel), by decide +kernel, by decide +kernel⟩
theorem mi_X10_isColumn : Cond.instanceMethod yX10_isColumn ∈ tbG := tb_at 945 (by decide +kernel) (by decide +kernel)
theorem ms_X10_isColumn : Cond.selects yX10_isColumn.cls yX10_isColumn yX10_isColumn ∈ tbG := tb_at 33 (by decide +kernel) (by decide +kernel)
theorem mf_X10_differs : MF yX10_differs cX10_differs 8 (some .int) 4 := ⟨tb_at 950 (by decide +kernel) (by decide +kernel), tb_at 59 (by decide +kernel) (by decide +kernel), by decide +kernel, by decide +kernel⟩
theorem mi_X10_differs : Cond.instanceMethod yX10_differs ∈ tbG := tb_at 949 (by decide +kernel) (by decide +kernel)
theorem ms_X10_differs : Cond.selects yX10_differs.cls yX10_differs yX10_differs ∈ tbG := tb_at 34 (by decide +kernel) (by decide +kernel)
theorem mf_X10_bits : MF yX10_bits cX10_bits 3 (some .int) 1 := ⟨tb_at 953 (by decide +kernel) (by decide +kernel), tb_at 59 (by decide +kernel) (by decide +kernel), by decide +kernel, by decide +kernel⟩
theorem mt_X10_bits : Cond.static yX10_bits ∈ tbG := tb_at 952 (by decide +kernel) (by decide +kernel)
theorem mf_X10_dueMany : MF yX10_dueMany cX10_dueMany 3 (some .int) 0 := ⟨tb_at 957 (by decide +kernel) (by decide +kernel), tb_at 59 (by decide +kernel) (by decide +kernel), by decide +kernel, by decide +kernel⟩
theorem mi_X10_dueMany : Cond.instanceMethod yX10_dueMany ∈ tbG := tb_at 956 (by decide +kernel) (by decide +kernel)
theorem ms_X10_dueMany : Cond.selects yX10_dueMany.cls yX10_dueMany yX10_dueMany ∈ tbG := tb_at 35 (by decide +kernel) (by decide +kernel)
theorem mf_X10_dueOf : MF yX10_dueOf cX10_dueOf 2 (some .int) 1 := ⟨tb_at 961 (by decide +kernel) (by decide +kernel), tb_at 59 (by decide +kernel) (by decide +kernel), by decide +kernel, by decide +kernel⟩
theorem mi_X10_dueOf : Cond.instanceMethod yX10_dueOf ∈ tbG := tb_at 960 (by decide +kernel) (by decide +kernel)
theorem ms_X10_dueOf : Cond.selects yX10_dueOf.cls yX10_dueOf yX10_dueOf ∈ tbG := tb_at 36 (by decide +kernel) (by decide +kernel)
theorem mf_X10_darken : MF yX10_darken cX10_darken 2 (some .int) 0 := ⟨tb_at 965 (by decide +kernel) (by decide +kernel), tb_at 59 (by decide +kernel) (by decide +kernel), by decide +kernel, by decide +kernel⟩
theorem mi_X10_darken : Cond.instanceMethod yX10_darken ∈ tbG := tb_at 963 (by decide +kernel) (by decide +kernel)
theorem ms_X10_darken : Cond.selects yX10_darken.cls yX10_darken yX10_darken ∈ tbG := tb_at 964 (by decide +kernel) (by decide +kernel)
theorem mf_X10_jam : MF yX10_jam cX10_jam 3 (some .int) 2 := ⟨tb_at 969 (by decide +kernel) (by decide +kernel), tb_at 59 (by decide +kernel) (by decide +kernel), by decide +kernel, by decide +kernel⟩
theorem mi_X10_jam : Cond.instanceMethod yX10_jam ∈ tbG := tb_at 967 (by decide +kernel) (by decide +kernel)
theorem ms_X10_jam : Cond.selects yX10_jam.cls yX10_jam yX10_jam ∈ tbG := tb_at 968 (by decide +kernel) (by decide +kernel)
theorem mf_X10_isDot : MF yX10_isDot cX10_isDot 3 (some .boolean) 2 := ⟨tb_at 973 (by decide +kernel) (by decide +kernel), tb_at 59 (by decide +kernel) (by decide +kernel), by decide +kernel, by decide +kernel⟩
theorem mi_X10_isDot : Cond.instanceMethod yX10_isDot ∈ tbG := tb_at 972 (by decide +kernel) (by decide +kernel)
theorem ms_X10_isDot : Cond.selects yX10_isDot.cls yX10_isDot yX10_isDot ∈ tbG := tb_at 37 (by decide +kernel) (by decide +kernel)
theorem mf_X10_mend : MF yX10_mend cX10_mend 4 (some .int) 2 := ⟨tb_at 977 (by decide +kernel) (by decide +kernel), tb_at 59 (by decide +kernel) (by decide +kernel), by decide +kernel, by decide +kernel⟩
theorem mi_X10_mend : Cond.instanceMethod yX10_mend ∈ tbG := tb_at 975 (by decide +kernel) (by decide +kernel)
theorem ms_X10_mend : Cond.selects yX10_mend.cls yX10_mend yX10_mend ∈ tbG := tb_at 976 (by decide +kernel) (by decide +kernel)
theorem mf_X10_pass : MF yX10_pass cX10_pass 3 (some .int) 1 := ⟨tb_at 981 (by decide +kernel) (by decide +kernel), tb_at 59 (by decide +kernel) (by decide +kernel), by decide +kernel, by decide +kernel⟩
theorem mi_X10_pass : Cond.instanceMethod yX10_pass ∈ tbG := tb_at 979 (by decide +kernel) (by decide +kernel)
theorem ms_X10_pass : Cond.selects yX10_pass.cls yX10_pass yX10_pass ∈ tbG := tb_at 980 (by decide +kernel) (by decide +kernel)
theorem mf_X10_second : MF yX10_second cX10_second 6 none 0 := ⟨tb_at 985 (by decide +kernel) (by decide +kernel), tb_at 59 (by decide +kernel) (by decide +kernel), by decide +kernel, by decide +kernel⟩
theorem mi_X10_second : Cond.instanceMethod yX10_second ∈ tbG := tb_at 984 (by decide +kernel) (by decide +kernel)
theorem ms_X10_second : Cond.selects yX10_second.cls yX10_second yX10_second ∈ tbG := tb_at 38 (by decide +kernel) (by decide +kernel)
theorem mf_X10_nextColumn : MF yX10_nextColumn cX10_nextColumn 4 (some .int) 1 := ⟨tb_at 989 (by decide +kernel) (by decide +kernel), tb_at 59 (by decide +kernel) (by decide +kernel), by decide +kernel, by decide +kernel⟩
theorem mi_X10_nextColumn : Cond.instanceMethod yX10_nextColumn ∈ tbG := tb_at 988 (by decide +kernel) (by decide +kernel)
theorem ms_X10_nextColumn : Cond.selects yX10_nextColumn.cls yX10_nextColumn yX10_nextColumn ∈ tbG := tb_at 39 (by decide +kernel) (by decide +kernel)
theorem mf_X10_flipsAt : MF yX10_flipsAt cX10_flipsAt 4 none 2 := ⟨tb_at 993 (by decide +kernel) (by decide +kernel), tb_at 59 (by decide +kernel) (by decide +kernel), by decide +kernel, by decide +kernel⟩
theorem mi_X10_flipsAt : Cond.instanceMethod yX10_flipsAt ∈ tbG := tb_at 992 (by decide +kernel) (by decide +kernel)
theorem ms_X10_flipsAt : Cond.selects yX10_flipsAt.cls yX10_flipsAt yX10_flipsAt ∈ tbG := tb_at 40 (by decide +kernel) (by decide +kernel)
theorem mf_X10_count : MF yX10_count cX10_count 2 (some .int) 1 := ⟨tb_at 997 (by decide +kernel) (by decide +kernel), tb_at 59 (by decide +kernel) (by decide +kernel), by decide +kernel, by decide +kernel⟩
theorem mi_X10_count : Cond.instanceMethod yX10_count ∈ tbG := tb_at 995 (by decide +kernel) (by decide +kernel)
theorem ms_X10_count : Cond.selects yX10_count.cls yX10_count yX10_count ∈ tbG := tb_at 996 (by decide +kernel) (by decide +kernel)
theorem mf_X10_bitsOf : MF yX10_bitsOf cX10_bitsOf 4 (some .int) 1 := ⟨tb_at 1001 (by decide +kernel) (by decide +kernel), tb_at 59 (by decide +kernel) (by decide +kernel), by decide +kernel, by decide +kernel⟩
theorem mi_X10_bitsOf : Cond.instanceMethod yX10_bitsOf ∈ tbG := tb_at 1000 (by decide +kernel) (by decide +kernel)
theorem ms_X10_bitsOf : Cond.selects yX10_bitsOf.cls yX10_bitsOf yX10_bitsOf ∈ tbG := tb_at 41 (by decide +kernel) (by decide +kernel)
theorem mf_X10_offMany : MF yX10_offMany cX10_offMany 3 (some .int) 0 := ⟨tb_at 1005 (by decide +kernel) (by decide +kernel), tb_at 59 (by decide +kernel) (by decide +kernel), by decide +kernel, by decide +kernel⟩
theorem mi_X10_offMany : Cond.instanceMethod yX10_offMany ∈ tbG := tb_at 1004 (by decide +kernel) (by decide +kernel)
theorem ms_X10_offMany : Cond.selects yX10_offMany.cls yX10_offMany yX10_offMany ∈ tbG := tb_at 42 (by decide +kernel) (by decide +kernel)
theorem mf_X10_column : MF yX10_column cX10_column 3 (some .int) 2 := ⟨tb_at 1009 (by decide +kernel) (by decide +kernel), tb_at 59 (by decide +kernel) (by decide +kernel), by decide +kernel, by decide +kernel⟩
theorem mi_X10_column : Cond.instanceMethod yX10_column ∈ tbG := tb_at 1007 (by decide +kernel) (by decide +kernel)
theorem ms_X10_column : Cond.selects yX10_column.cls yX10_column yX10_column ∈ tbG := tb_at 1008 (by decide +kernel) (by decide +kernel)
theorem mf_X10_flips : MF yX10_flips cX10_flips 3 (some .int) 2 := ⟨tb_at 1013 (by decide +kernel) (by decide +kernel), tb_at 59 (by decide +kernel) (by decide +kernel), by decide +kernel, by decide +kernel⟩
theorem mi_X10_flips : Cond.instanceMethod yX10_flips ∈ tbG := tb_at 1011 (by decide +kernel) (by decide +kernel)
theorem ms_X10_flips : Cond.selects yX10_flips.cls yX10_flips yX10_flips ∈ tbG := tb_at 1012 (by decide +kernel) (by decide +kernel)
theorem mf_X10_letter : MF yX10_letter cX10_letter 3 (some .int) 2 := ⟨tb_at 1017 (by decide +kernel) (by decide +kernel), tb_at 59 (by decide +kernel) (by decide +kernel), by decide +kernel, by decide +kernel⟩
theorem mi_X10_letter : Cond.instanceMethod yX10_letter ∈ tbG := tb_at 1015 (by decide +kernel) (by decide +kernel)
theorem ms_X10_letter : Cond.selects yX10_letter.cls yX10_letter yX10_letter ∈ tbG := tb_at 1016 (by decide +kernel) (by decide +kernel)
theorem mf_X10_message : MF yX10_message cX10_message 3 (some .int) 2 := ⟨tb_at 1021 (by decide +kernel) (by decide +kernel), tb_at 59 (by decide +kernel) (by decide +kernel), by decide +kernel, by decide +kernel⟩
theorem mi_X10_message : Cond.instanceMethod yX10_message ∈ tbG := tb_at 1019 (by decide +kernel) (by decide +kernel)
theorem ms_X10_message : Cond.selects yX10_message.cls yX10_message yX10_message ∈ tbG := tb_at 1020 (by decide +kernel) (by decide +kernel)
theorem mf_X10_strip : MF yX10_strip cX10_strip 2 (some .int) 1 := ⟨tb_at 1025 (by decide +kernel) (by decide +kernel), tb_at 59 (by decide +kernel) (by decide +kernel), by decide +kernel, by decide +kernel⟩
theorem mi_X10_strip : Cond.instanceMethod yX10_strip ∈ tbG := tb_at 1023 (by decide +kernel) (by decide +kernel)
theorem ms_X10_strip : Cond.selects yX10_strip.cls yX10_strip yX10_strip ∈ tbG := tb_at 1024 (by decide +kernel) (by decide +kernel)
theorem mf_X10_picture : MF yX10_picture cX10_picture 4 (some .int) 3 := ⟨tb_at 1029 (by decide +kernel) (by decide +kernel), tb_at 59 (by decide +kernel) (by decide +kernel), by decide +kernel, by decide +kernel⟩
theorem mi_X10_picture : Cond.instanceMethod yX10_picture ∈ tbG := tb_at 1027 (by decide +kernel) (by decide +kernel)
theorem ms_X10_picture : Cond.selects yX10_picture.cls yX10_picture yX10_picture ∈ tbG := tb_at 1028 (by decide +kernel) (by decide +kernel)
theorem mf_X10_power : MF yX10_power cX10_power 2 (some .int) 1 := ⟨tb_at 1033 (by decide +kernel) (by decide +kernel), tb_at 59 (by decide +kernel) (by decide +kernel), by decide +kernel, by decide +kernel⟩
theorem mi_X10_power : Cond.instanceMethod yX10_power ∈ tbG := tb_at 1031 (by decide +kernel) (by decide +kernel)
theorem ms_X10_power : Cond.selects yX10_power.cls yX10_power yX10_power ∈ tbG := tb_at 1032 (by decide +kernel) (by decide +kernel)
theorem mf_X10_bestShift : MF yX10_bestShift cX10_bestShift 2 (some .int) 1 := ⟨tb_at 1037 (by decide +kernel) (by decide +kernel), tb_at 59 (by decide +kernel) (by decide +kernel), by decide +kernel, by decide +kernel⟩
theorem mi_X10_bestShift : Cond.instanceMethod yX10_bestShift ∈ tbG := tb_at 1035 (by decide +kernel) (by decide +kernel)
theorem ms_X10_bestShift : Cond.selects yX10_bestShift.cls yX10_bestShift yX10_bestShift ∈ tbG := tb_at 1036 (by decide +kernel) (by decide +kernel)
theorem mf_X10_due : MF yX10_due cX10_due 3 (some .int) 2 := ⟨tb_at 1041 (by decide +kernel) (by decide +kernel), tb_at 59 (by decide +kernel) (by decide +kernel), by decide +kernel, by decide +kernel⟩
theorem mi_X10_due : Cond.instanceMethod yX10_due ∈ tbG := tb_at 1039 (by decide +kernel) (by decide +kernel)
theorem ms_X10_due : Cond.selects yX10_due.cls yX10_due yX10_due ∈ tbG := tb_at 1040 (by decide +kernel) (by decide +kernel)
theorem mf_X10_secondsFor : MF yX10_secondsFor cX10_secondsFor 5 (some .int) 2 := ⟨tb_at 1045 (by decide +kernel) (by decide +kernel), tb_at 59 (by decide +kernel) (by decide +kernel), by decide +kernel, by decide +kernel⟩
theorem mi_X10_secondsFor : Cond.instanceMethod yX10_secondsFor ∈ tbG := tb_at 1043 (by decide +kernel) (by decide +kernel)
theorem ms_X10_secondsFor : Cond.selects yX10_secondsFor.cls yX10_secondsFor yX10_secondsFor ∈ tbG := tb_at 1044 (by decide +kernel) (by decide +kernel)
theorem mf_X10_between : MF yX10_between cX10_between 3 (some .int) 2 := ⟨tb_at 1049 (by decide +kernel) (by decide +kernel), tb_at 59 (by decide +kernel) (by decide +kernel), by decide +kernel, by decide +kernel⟩
theorem mi_X10_between : Cond.instanceMethod yX10_between ∈ tbG := tb_at 1047 (by decide +kernel) (by decide +kernel)
theorem ms_X10_between : Cond.selects yX10_between.cls yX10_between yX10_between ∈ tbG := tb_at 1048 (by decide +kernel) (by decide +kernel)
theorem mf_X10_betweenOf : MF yX10_betweenOf cX10_betweenOf 3 (some .int) 2 := ⟨tb_at 1053 (by decide +kernel) (by decide +kernel), tb_at 59 (by decide +kernel) (by decide +kernel), by decide +kernel, by decide +kernel⟩
theorem mi_X10_betweenOf : Cond.instanceMethod yX10_betweenOf ∈ tbG := tb_at 1052 (by decide +kernel) (by decide +kernel)
theorem ms_X10_betweenOf : Cond.selects yX10_betweenOf.cls yX10_betweenOf yX10_betweenOf ∈ tbG := tb_at 43 (by decide +kernel) (by decide +kernel)
theorem mf_X10_bestOrder : MF yX10_bestOrder cX10_bestOrder 7 (some .int) 2 := ⟨tb_at 1057 (by decide +kernel) (by decide +kernel), tb_at 59 (by decide +kernel) (by decide +kernel), by decide +kernel, by decide +kernel⟩
theorem mi_X10_bestOrder : Cond.instanceMethod yX10_bestOrder ∈ tbG := tb_at 1055 (by decide +kernel) (by decide +kernel)
theorem ms_X10_bestOrder : Cond.selects yX10_bestOrder.cls yX10_bestOrder yX10_bestOrder ∈ tbG := tb_at 1056 (by decide +kernel) (by decide +kernel)
theorem mf_X10_laysFlips : MF yX10_laysFlips cX10_laysFlips 3 none 0 := ⟨tb_at 1061 (by decide +kernel) (by decide +kernel), tb_at 59 (by decide +kernel) (by decide +kernel), by decide +kernel, by decide +kernel⟩
theorem mi_X10_laysFlips : Cond.instanceMethod yX10_laysFlips ∈ tbG := tb_at 1060 (by decide +kernel) (by decide +kernel)
theorem ms_X10_laysFlips : Cond.selects yX10_laysFlips.cls yX10_laysFlips yX10_laysFlips ∈ tbG := tb_at 44 (by decide +kernel) (by decide +kernel)
theorem mf_X10_flipsFor : MF yX10_flipsFor cX10_flipsFor 3 (some .int) 0 := ⟨tb_at 1065 (by decide +kernel) (by decide +kernel), tb_at 59 (by decide +kernel) (by decide +kernel), by decide +kernel, by decide +kernel⟩
theorem mi_X10_flipsFor : Cond.instanceMethod yX10_flipsFor ∈ tbG := tb_at 1064 (by decide +kernel) (by decide +kernel)
theorem ms_X10_flipsFor : Cond.selects yX10_flipsFor.cls yX10_flipsFor yX10_flipsFor ∈ tbG := tb_at 45 (by decide +kernel) (by decide +kernel)
theorem mf_X10_goesOn : MF yX10_goesOn cX10_goesOn 5 (some .boolean) 0 := ⟨tb_at 1069 (by decide +kernel) (by decide +kernel), tb_at 59 (by decide +kernel) (by decide +kernel), by decide +kernel, by decide +kernel⟩
theorem mi_X10_goesOn : Cond.instanceMethod yX10_goesOn ∈ tbG := tb_at 1068 (by decide +kernel) (by decide +kernel)
theorem ms_X10_goesOn : Cond.selects yX10_goesOn.cls yX10_goesOn yX10_goesOn ∈ tbG := tb_at 46 (by decide +kernel) (by decide +kernel)
theorem mf_X10_swaps : MF yX10_swaps cX10_swaps 4 none 2 := ⟨tb_at 1073 (by decide +kernel) (by decide +kernel), tb_at 59 (by decide +kernel) (by decide +kernel), by decide +kernel, by decide +kernel⟩
theorem mi_X10_swaps : Cond.instanceMethod yX10_swaps ∈ tbG := tb_at 1072 (by decide +kernel) (by decide +kernel)
theorem ms_X10_swaps : Cond.selects yX10_swaps.cls yX10_swaps yX10_swaps ∈ tbG := tb_at 47 (by decide +kernel) (by decide +kernel)
theorem mf_X10_undo : MF yX10_undo cX10_undo 2 (some .int) 0 := ⟨tb_at 1077 (by decide +kernel) (by decide +kernel), tb_at 59 (by decide +kernel) (by decide +kernel), by decide +kernel, by decide +kernel⟩
theorem mi_X10_undo : Cond.instanceMethod yX10_undo ∈ tbG := tb_at 1075 (by decide +kernel) (by decide +kernel)
theorem ms_X10_undo : Cond.selects yX10_undo.cls yX10_undo yX10_undo ∈ tbG := tb_at 1076 (by decide +kernel) (by decide +kernel)
theorem m_obj : Cond.instanceMethod objectInit ∈ tbG ∧ Cond.code objectInit ⟨#[0xb1]⟩ 1 none ∈ tbG := ⟨tb_at 70 (by decide +kernel) (by decide +kernel), tb_at 71 (by decide +kernel) (by decide +kernel)⟩
theorem m_cpy : Cond.native arraycopyName ∈ tbG ∧ Cond.static arraycopyName ∈ tbG ∧ Cond.initialized "java/lang/System" ∈ tbG := ⟨tb_at 350 (by decide +kernel) (by decide +kernel), tb_at 349 (by decide +kernel) (by decide +kernel), tb_at 61 (by decide +kernel) (by decide +kernel)⟩
theorem kl_L_9 : Cond.methodLink RL 9 yX9_init ∈ tbG := tb_at 66 (by decide +kernel) (by decide +kernel)
theorem kl_X9_1 : Cond.methodLink RX9 1 objectInit ∈ tbG := tb_at 69 (by decide +kernel) (by decide +kernel)
theorem kl_X8_3 : Cond.methodLink RX8 3 objectInit ∈ tbG := tb_at 77 (by decide +kernel) (by decide +kernel)
theorem kl_X0_3 : Cond.methodLink RX0 3 objectInit ∈ tbG := tb_at 83 (by decide +kernel) (by decide +kernel)
theorem kl_X3_3 : Cond.methodLink RX3 3 objectInit ∈ tbG := tb_at 117 (by decide +kernel) (by decide +kernel)
theorem kl_X7_3 : Cond.methodLink RX7 3 objectInit ∈ tbG := tb_at 145 (by decide +kernel) (by decide +kernel)
theorem kl_X8_36 : Cond.methodLink RX8 36 ⟨"[I", "clone", "()Ljava/lang/Object;"⟩ ∈ tbG := tb_at 166 (by decide +kernel) (by decide +kernel)
theorem kl_X9_21 : Cond.methodLink RX9 21 yX2_init ∈ tbG := tb_at 198 (by decide +kernel) (by decide +kernel)
theorem kl_X2_3 : Cond.methodLink RX2 3 objectInit ∈ tbG := tb_at 201 (by decide +kernel) (by decide +kernel)
theorem kl_X5_3 : Cond.methodLink RX5 3 objectInit ∈ tbG := tb_at 221 (by decide +kernel) (by decide +kernel)
theorem kl_X1_3 : Cond.methodLink RX1 3 objectInit ∈ tbG := tb_at 236 (by decide +kernel) (by decide +kernel)
theorem kl_X6_3 : Cond.methodLink RX6 3 objectInit ∈ tbG := tb_at 246 (by decide +kernel) (by decide +kernel)
theorem kl_X4_3 : Cond.methodLink RX4 3 objectInit ∈ tbG := tb_at 272 (by decide +kernel) (by decide +kernel)
theorem kl_L_13 : Cond.methodLink RL 13 yX9_begin ∈ tbG := tb_at 319 (by decide +kernel) (by decide +kernel)
theorem kl_X9_62 : Cond.methodLink RX9 62 yX2_keep ∈ tbG := tb_at 323 (by decide +kernel) (by decide +kernel)
theorem kl_X2_25 : Cond.methodLink RX2 25 yX2_stateAt ∈ tbG := tb_at 327 (by decide +kernel) (by decide +kernel)
theorem kl_X2_33 : Cond.methodLink RX2 33 yJ9_floorMod_7cf53 ∈ tbG := tb_at 331 (by decide +kernel) (by decide +kernel)
theorem kl_X2_29 : Cond.methodLink RX2 29 yX8_copyFrom ∈ tbG := tb_at 334 (by decide +kernel) (by decide +kernel)
theorem kl_X8_44 : Cond.methodLink RX8 44 yX0_copyFrom ∈ tbG := tb_at 338 (by decide +kernel) (by decide +kernel)
theorem kl_X9_277 : Cond.methodLink RX9 277 yJ9_min_7cf53 ∈ tbG := tb_at 345 (by decide +kernel) (by decide +kernel)
theorem kl_X9_282 : Cond.methodLink RX9 282 arraycopyName ∈ tbG := tb_at 348 (by decide +kernel) (by decide +kernel)
theorem kl_X8_48 : Cond.methodLink RX8 48 yX3_copyFrom ∈ tbG := tb_at 351 (by decide +kernel) (by decide +kernel)
theorem kl_X8_51 : Cond.methodLink RX8 51 yX7_copyFrom ∈ tbG := tb_at 356 (by decide +kernel) (by decide +kernel)
theorem kl_X9_75 : Cond.methodLink RX9 75 yX0_renew ∈ tbG := tb_at 362 (by decide +kernel) (by decide +kernel)
theorem kl_X0_35 : Cond.methodLink RX0 35 yJ7_fill_53178 ∈ tbG := tb_at 366 (by decide +kernel) (by decide +kernel)
theorem kl_X9_83 : Cond.methodLink RX9 83 yX3_renew ∈ tbG := tb_at 369 (by decide +kernel) (by decide +kernel)
theorem kl_X3_32 : Cond.methodLink RX3 32 yJ7_fill_53178 ∈ tbG := tb_at 373 (by decide +kernel) (by decide +kernel)
theorem kl_L_18 : Cond.methodLink RL 18 yX9_setNumber ∈ tbG := tb_at 374 (by decide +kernel) (by decide +kernel)
theorem kl_X9_87 : Cond.methodLink RX9 87 yX8_hasNumber ∈ tbG := tb_at 378 (by decide +kernel) (by decide +kernel)
theorem kl_L_23 : Cond.methodLink RL 23 yX9_setColumn ∈ tbG := tb_at 386 (by decide +kernel) (by decide +kernel)
theorem kl_X9_104 : Cond.methodLink RX9 104 yX7_widthOf ∈ tbG := tb_at 390 (by decide +kernel) (by decide +kernel)
theorem kl_X7_32 : Cond.methodLink RX7 32 yX7_isLetter ∈ tbG := tb_at 394 (by decide +kernel) (by decide +kernel)
theorem kl_X9_110 : Cond.methodLink RX9 110 yX7_putColumn ∈ tbG := tb_at 398 (by decide +kernel) (by decide +kernel)
theorem kl_X7_36 : Cond.methodLink RX7 36 yJ9_max_7cf53 ∈ tbG := tb_at 402 (by decide +kernel) (by decide +kernel)
theorem kl_L_28 : Cond.methodLink RL 28 yX9_addMessage ∈ tbG := tb_at 405 (by decide +kernel) (by decide +kernel)
theorem kl_X9_117 : Cond.methodLink RX9 117 yX7_startMessage ∈ tbG := tb_at 409 (by decide +kernel) (by decide +kernel)
theorem kl_X9_120 : Cond.methodLink RX9 120 yX7_addCharacter ∈ tbG := tb_at 413 (by decide +kernel) (by decide +kernel)
theorem kl_X7_45 : Cond.methodLink RX7 45 yX7_lengthOf ∈ tbG := tb_at 417 (by decide +kernel) (by decide +kernel)
theorem kl_X7_42 : Cond.methodLink RX7 42 yX7_hasMessage ∈ tbG := tb_at 421 (by decide +kernel) (by decide +kernel)
theorem kl_L_32 : Cond.methodLink RL 32 yX9_removeMessage ∈ tbG := tb_at 425 (by decide +kernel) (by decide +kernel)
theorem kl_X9_123 : Cond.methodLink RX9 123 yX7_hasMessage ∈ tbG := tb_at 429 (by decide +kernel) (by decide +kernel)
theorem kl_X9_126 : Cond.methodLink RX9 126 yX7_dropMessage ∈ tbG := tb_at 430 (by decide +kernel) (by decide +kernel)
theorem kl_L_36 : Cond.methodLink RL 36 yX9_appendCharacter ∈ tbG := tb_at 434 (by decide +kernel) (by decide +kernel)
theorem kl_L_40 : Cond.methodLink RL 40 yX9_clearText ∈ tbG := tb_at 438 (by decide +kernel) (by decide +kernel)
theorem kl_L_45 : Cond.methodLink RL 45 yX9_load ∈ tbG := tb_at 442 (by decide +kernel) (by decide +kernel)
theorem kl_X9_129 : Cond.methodLink RX9 129 yX6_errorIn ∈ tbG := tb_at 446 (by decide +kernel) (by decide +kernel)
theorem kl_X6_31 : Cond.methodLink RX6 31 yX7_copyFrom ∈ tbG := tb_at 450 (by decide +kernel) (by decide +kernel)
theorem kl_X6_35 : Cond.methodLink RX6 35 yX6_takes ∈ tbG := tb_at 451 (by decide +kernel) (by decide +kernel)
theorem kl_X6_39 : Cond.methodLink RX6 39 yX6_takesStart ∈ tbG := tb_at 455 (by decide +kernel) (by decide +kernel)
theorem kl_X6_57 : Cond.methodLink RX6 57 yX7_startMessage ∈ tbG := tb_at 459 (by decide +kernel) (by decide +kernel)
theorem kl_X6_60 : Cond.methodLink RX6 60 yX6_isSmallLetter ∈ tbG := tb_at 460 (by decide +kernel) (by decide +kernel)
theorem kl_X6_63 : Cond.methodLink RX6 63 yX7_clearLetter ∈ tbG := tb_at 463 (by decide +kernel) (by decide +kernel)
theorem kl_X6_42 : Cond.methodLink RX6 42 yX6_takesEqualsSign ∈ tbG := tb_at 467 (by decide +kernel) (by decide +kernel)
theorem kl_X6_45 : Cond.methodLink RX6 45 yX6_takesFirstDigit ∈ tbG := tb_at 471 (by decide +kernel) (by decide +kernel)
theorem kl_X6_67 : Cond.methodLink RX6 67 yX7_widthOf ∈ tbG := tb_at 475 (by decide +kernel) (by decide +kernel)
theorem kl_X6_71 : Cond.methodLink RX6 71 yX6_endItem ∈ tbG := tb_at 476 (by decide +kernel) (by decide +kernel)
theorem kl_X6_74 : Cond.methodLink RX6 74 yX6_digitOf ∈ tbG := tb_at 480 (by decide +kernel) (by decide +kernel)
theorem kl_X6_48 : Cond.methodLink RX6 48 yX6_takesSecondDigit ∈ tbG := tb_at 483 (by decide +kernel) (by decide +kernel)
theorem kl_X6_77 : Cond.methodLink RX6 77 yX7_putColumn ∈ tbG := tb_at 487 (by decide +kernel) (by decide +kernel)
theorem kl_X6_51 : Cond.methodLink RX6 51 yX6_takesCharacter ∈ tbG := tb_at 488 (by decide +kernel) (by decide +kernel)
theorem kl_X6_81 : Cond.methodLink RX6 81 yX7_lengthOf ∈ tbG := tb_at 492 (by decide +kernel) (by decide +kernel)
theorem kl_X6_84 : Cond.methodLink RX6 84 yX7_addCharacter ∈ tbG := tb_at 493 (by decide +kernel) (by decide +kernel)
theorem kl_X9_136 : Cond.methodLink RX9 136 yX7_copyFrom ∈ tbG := tb_at 494 (by decide +kernel) (by decide +kernel)
theorem kl_L_49 : Cond.methodLink RL 49 yX9_show ∈ tbG := tb_at 495 (by decide +kernel) (by decide +kernel)
theorem kl_X9_143 : Cond.methodLink RX9 143 yX9_canShow ∈ tbG := tb_at 499 (by decide +kernel) (by decide +kernel)
theorem kl_X9_147 : Cond.methodLink RX9 147 yX5_drawAs ∈ tbG := tb_at 503 (by decide +kernel) (by decide +kernel)
theorem kl_X5_44 : Cond.methodLink RX5 44 yX5_bestShiftOf ∈ tbG := tb_at 507 (by decide +kernel) (by decide +kernel)
theorem kl_X5_48 : Cond.methodLink RX5 48 yX5_draw ∈ tbG := tb_at 514 (by decide +kernel) (by decide +kernel)
theorem kl_X5_34 : Cond.methodLink RX5 34 yX7_stripColumns ∈ tbG := tb_at 518 (by decide +kernel) (by decide +kernel)
theorem kl_X7_49 : Cond.methodLink RX7 49 yX7_characterOf ∈ tbG := tb_at 522 (by decide +kernel) (by decide +kernel)
theorem kl_X7_52 : Cond.methodLink RX7 52 yX7_widthOf ∈ tbG := tb_at 526 (by decide +kernel) (by decide +kernel)
theorem kl_X5_40 : Cond.methodLink RX5 40 yX7_stripBits ∈ tbG := tb_at 527 (by decide +kernel) (by decide +kernel)
theorem kl_X7_55 : Cond.methodLink RX7 55 yX7_columnOf ∈ tbG := tb_at 531 (by decide +kernel) (by decide +kernel)
theorem kl_X5_58 : Cond.methodLink RX5 58 yX0_knownAgainst ∈ tbG := tb_at 535 (by decide +kernel) (by decide +kernel)
theorem kl_X0_49 : Cond.methodLink RX0 49 yJ6_bitCount_0f7a4 ∈ tbG := tb_at 539 (by decide +kernel) (by decide +kernel)
theorem kl_X5_65 : Cond.methodLink RX5 65 yX0_differing ∈ tbG := tb_at 545 (by decide +kernel) (by decide +kernel)
theorem kl_X9_154 : Cond.methodLink RX9 154 yX0_aimAt ∈ tbG := tb_at 549 (by decide +kernel) (by decide +kernel)
theorem kl_X9_158 : Cond.methodLink RX9 158 yX0_dueDots ∈ tbG := tb_at 553 (by decide +kernel) (by decide +kernel)
theorem kl_X0_45 : Cond.methodLink RX0 45 yX0_differing ∈ tbG := tb_at 557 (by decide +kernel) (by decide +kernel)
theorem kl_L_53 : Cond.methodLink RL 53 yX9_darken ∈ tbG := tb_at 558 (by decide +kernel) (by decide +kernel)
theorem kl_X9_162 : Cond.methodLink RX9 162 yX0_aimAtDark ∈ tbG := tb_at 562 (by decide +kernel) (by decide +kernel)
theorem kl_L_57 : Cond.methodLink RL 57 yX9_jam ∈ tbG := tb_at 566 (by decide +kernel) (by decide +kernel)
theorem kl_X9_165 : Cond.methodLink RX9 165 yX0_hasDot ∈ tbG := tb_at 570 (by decide +kernel) (by decide +kernel)
theorem kl_X0_41 : Cond.methodLink RX0 41 yX0_hasColumn ∈ tbG := tb_at 574 (by decide +kernel) (by decide +kernel)
theorem kl_X9_168 : Cond.methodLink RX9 168 yX0_isStuck ∈ tbG := tb_at 578 (by decide +kernel) (by decide +kernel)
theorem kl_X0_59 : Cond.methodLink RX0 59 yX0_hasDot ∈ tbG := tb_at 582 (by decide +kernel) (by decide +kernel)
theorem kl_X9_171 : Cond.methodLink RX9 171 yX0_stick ∈ tbG := tb_at 583 (by decide +kernel) (by decide +kernel)
theorem kl_X9_175 : Cond.methodLink RX9 175 yX0_flipsOf ∈ tbG := tb_at 587 (by decide +kernel) (by decide +kernel)
theorem kl_L_61 : Cond.methodLink RL 61 yX9_mend ∈ tbG := tb_at 591 (by decide +kernel) (by decide +kernel)
theorem kl_X9_179 : Cond.methodLink RX9 179 yX0_renewDot ∈ tbG := tb_at 595 (by decide +kernel) (by decide +kernel)
theorem kl_L_65 : Cond.methodLink RL 65 yX9_pass ∈ tbG := tb_at 599 (by decide +kernel) (by decide +kernel)
theorem kl_X9_182 : Cond.methodLink RX9 182 yX1_passSecond ∈ tbG := tb_at 603 (by decide +kernel) (by decide +kernel)
theorem kl_X1_24 : Cond.methodLink RX1 24 yX1_arrange ∈ tbG := tb_at 607 (by decide +kernel) (by decide +kernel)
theorem kl_X1_52 : Cond.methodLink RX1 52 yX1_arrangeByDueDots ∈ tbG := tb_at 611 (by decide +kernel) (by decide +kernel)
theorem kl_X1_28 : Cond.methodLink RX1 28 yX0_dueBits ∈ tbG := tb_at 615 (by decide +kernel) (by decide +kernel)
theorem kl_X1_56 : Cond.methodLink RX1 56 yJ6_bitCount_0f7a4 ∈ tbG := tb_at 619 (by decide +kernel) (by decide +kernel)
theorem kl_X1_34 : Cond.methodLink RX1 34 yX1_flipColumn ∈ tbG := tb_at 620 (by decide +kernel) (by decide +kernel)
theorem kl_X1_48 : Cond.methodLink RX1 48 yX8_tryDot ∈ tbG := tb_at 624 (by decide +kernel) (by decide +kernel)
theorem kl_X8_58 : Cond.methodLink RX8 58 yX0_isStuck ∈ tbG := tb_at 628 (by decide +kernel) (by decide +kernel)
theorem kl_X8_62 : Cond.methodLink RX8 62 yX0_makeKnown ∈ tbG := tb_at 629 (by decide +kernel) (by decide +kernel)
theorem kl_X8_70 : Cond.methodLink RX8 70 yX0_flip ∈ tbG := tb_at 633 (by decide +kernel) (by decide +kernel)
theorem kl_X8_76 : Cond.methodLink RX8 76 yX0_flipsOf ∈ tbG := tb_at 637 (by decide +kernel) (by decide +kernel)
theorem kl_X8_80 : Cond.methodLink RX8 80 yX0_stick ∈ tbG := tb_at 638 (by decide +kernel) (by decide +kernel)
theorem kl_X1_42 : Cond.methodLink RX1 42 yX3_addSecond ∈ tbG := tb_at 639 (by decide +kernel) (by decide +kernel)
theorem kl_X3_38 : Cond.methodLink RX3 38 yJ9_floorMod_7cf53 ∈ tbG := tb_at 643 (by decide +kernel) (by decide +kernel)
theorem kl_L_69 : Cond.methodLink RL 69 yX9_count ∈ tbG := tb_at 644 (by decide +kernel) (by decide +kernel)
theorem kl_X9_185 : Cond.methodLink RX9 185 yX0_stuckDots ∈ tbG := tb_at 648 (by decide +kernel) (by decide +kernel)
theorem kl_X0_55 : Cond.methodLink RX0 55 yX0_dotsIn ∈ tbG := tb_at 652 (by decide +kernel) (by decide +kernel)
theorem kl_X9_188 : Cond.methodLink RX9 188 yX0_knownDots ∈ tbG := tb_at 655 (by decide +kernel) (by decide +kernel)
theorem kl_X9_191 : Cond.methodLink RX9 191 yX0_otherDots ∈ tbG := tb_at 659 (by decide +kernel) (by decide +kernel)
theorem kl_L_73 : Cond.methodLink RL 73 yX9_column ∈ tbG := tb_at 663 (by decide +kernel) (by decide +kernel)
theorem kl_X9_209 : Cond.methodLink RX9 209 yX0_hasColumn ∈ tbG := tb_at 667 (by decide +kernel) (by decide +kernel)
theorem kl_L_77 : Cond.methodLink RL 77 yX9_flips ∈ tbG := tb_at 668 (by decide +kernel) (by decide +kernel)
theorem kl_L_81 : Cond.methodLink RL 81 yX9_letter ∈ tbG := tb_at 672 (by decide +kernel) (by decide +kernel)
theorem kl_X9_224 : Cond.methodLink RX9 224 yX7_columnOf ∈ tbG := tb_at 676 (by decide +kernel) (by decide +kernel)
theorem kl_L_85 : Cond.methodLink RL 85 yX9_message ∈ tbG := tb_at 677 (by decide +kernel) (by decide +kernel)
theorem kl_X9_227 : Cond.methodLink RX9 227 yX7_lengthOf ∈ tbG := tb_at 681 (by decide +kernel) (by decide +kernel)
theorem kl_X9_230 : Cond.methodLink RX9 230 yX7_characterOf ∈ tbG := tb_at 682 (by decide +kernel) (by decide +kernel)
theorem kl_L_89 : Cond.methodLink RL 89 yX9_strip ∈ tbG := tb_at 683 (by decide +kernel) (by decide +kernel)
theorem kl_X9_233 : Cond.methodLink RX9 233 yX7_stripColumns ∈ tbG := tb_at 687 (by decide +kernel) (by decide +kernel)
theorem kl_L_93 : Cond.methodLink RL 93 yX9_picture ∈ tbG := tb_at 688 (by decide +kernel) (by decide +kernel)
theorem kl_X9_236 : Cond.methodLink RX9 236 yX5_draw ∈ tbG := tb_at 692 (by decide +kernel) (by decide +kernel)
theorem kl_L_97 : Cond.methodLink RL 97 yX9_power ∈ tbG := tb_at 693 (by decide +kernel) (by decide +kernel)
theorem kl_X9_240 : Cond.methodLink RX9 240 yX3_powerOf ∈ tbG := tb_at 697 (by decide +kernel) (by decide +kernel)
theorem kl_L_101 : Cond.methodLink RL 101 yX9_bestShift ∈ tbG := tb_at 701 (by decide +kernel) (by decide +kernel)
theorem kl_X9_243 : Cond.methodLink RX9 243 yX5_bestShiftOf ∈ tbG := tb_at 705 (by decide +kernel) (by decide +kernel)
theorem kl_L_105 : Cond.methodLink RL 105 yX9_due ∈ tbG := tb_at 706 (by decide +kernel) (by decide +kernel)
theorem kl_X9_247 : Cond.methodLink RX9 247 yX0_differing ∈ tbG := tb_at 710 (by decide +kernel) (by decide +kernel)
theorem kl_L_109 : Cond.methodLink RL 109 yX9_secondsFor ∈ tbG := tb_at 711 (by decide +kernel) (by decide +kernel)
theorem kl_X9_251 : Cond.methodLink RX9 251 yX8_copyFrom ∈ tbG := tb_at 715 (by decide +kernel) (by decide +kernel)
theorem kl_L_113 : Cond.methodLink RL 113 yX9_between ∈ tbG := tb_at 716 (by decide +kernel) (by decide +kernel)
theorem kl_L_117 : Cond.methodLink RL 117 yX9_bestOrder ∈ tbG := tb_at 720 (by decide +kernel) (by decide +kernel)
theorem kl_X9_256 : Cond.methodLink RX9 256 yX9_isSetToOrder ∈ tbG := tb_at 724 (by decide +kernel) (by decide +kernel)
theorem kl_X9_259 : Cond.methodLink RX9 259 yJ6_bitCount_0f7a4 ∈ tbG := tb_at 728 (by decide +kernel) (by decide +kernel)
theorem kl_X9_264 : Cond.methodLink RX9 264 yX4_find ∈ tbG := tb_at 729 (by decide +kernel) (by decide +kernel)
theorem kl_X4_30 : Cond.methodLink RX4 30 yX4_gather ∈ tbG := tb_at 733 (by decide +kernel) (by decide +kernel)
theorem kl_X4_68 : Cond.methodLink RX4 68 yX5_draw ∈ tbG := tb_at 738 (by decide +kernel) (by decide +kernel)
theorem kl_X4_40 : Cond.methodLink RX4 40 yX4_measure ∈ tbG := tb_at 739 (by decide +kernel) (by decide +kernel)
theorem kl_X4_74 : Cond.methodLink RX4 74 yX0_differing ∈ tbG := tb_at 743 (by decide +kernel) (by decide +kernel)
theorem kl_X4_44 : Cond.methodLink RX4 44 yX4_wholeSet ∈ tbG := tb_at 744 (by decide +kernel) (by decide +kernel)
theorem kl_X4_48 : Cond.methodLink RX4 48 yX4_nextBehind ∈ tbG := tb_at 748 (by decide +kernel) (by decide +kernel)
theorem kl_X4_56 : Cond.methodLink RX4 56 yX4_without ∈ tbG := tb_at 753 (by decide +kernel) (by decide +kernel)
theorem kl_X4_52 : Cond.methodLink RX4 52 yX4_flipsBy ∈ tbG := tb_at 756 (by decide +kernel) (by decide +kernel)
theorem kl_X9_268 : Cond.methodLink RX9 268 yX4_fewestFlips ∈ tbG := tb_at 760 (by decide +kernel) (by decide +kernel)
theorem kl_X9_271 : Cond.methodLink RX9 271 yX4_messageAt ∈ tbG := tb_at 764 (by decide +kernel) (by decide +kernel)
theorem kl_L_121 : Cond.methodLink RL 121 yX9_undo ∈ tbG := tb_at 768 (by decide +kernel) (by decide +kernel)
theorem kl_X9_274 : Cond.methodLink RX9 274 yX2_restore ∈ tbG := tb_at 772 (by decide +kernel) (by decide +kernel)
theorem kl_L_12 : Cond.methodLink RL 12 yX10_init ∈ tbG := tb_at 778 (by decide +kernel) (by decide +kernel)
theorem kl_X10_1 : Cond.methodLink RX10 1 objectInit ∈ tbG := tb_at 781 (by decide +kernel) (by decide +kernel)
theorem kl_L_17 : Cond.methodLink RL 17 yX10_begin ∈ tbG := tb_at 831 (by decide +kernel) (by decide +kernel)
theorem kl_X10_96 : Cond.methodLink RX10 96 yX10_in ∈ tbG := tb_at 835 (by decide +kernel) (by decide +kernel)
theorem kl_X10_100 : Cond.methodLink RX10 100 yX10_hold ∈ tbG := tb_at 838 (by decide +kernel) (by decide +kernel)
theorem kl_X10_46 : Cond.methodLink RX10 46 yX10_copies ∈ tbG := tb_at 842 (by decide +kernel) (by decide +kernel)
theorem kl_X10_103 : Cond.methodLink RX10 103 yX10_ends ∈ tbG := tb_at 845 (by decide +kernel) (by decide +kernel)
theorem kl_L_22 : Cond.methodLink RL 22 yX10_setNumber ∈ tbG := tb_at 849 (by decide +kernel) (by decide +kernel)
theorem kl_X10_106 : Cond.methodLink RX10 106 yX10_isNumber ∈ tbG := tb_at 853 (by decide +kernel) (by decide +kernel)
theorem kl_L_27 : Cond.methodLink RL 27 yX10_setColumn ∈ tbG := tb_at 856 (by decide +kernel) (by decide +kernel)
theorem kl_L_31 : Cond.methodLink RL 31 yX10_addMessage ∈ tbG := tb_at 860 (by decide +kernel) (by decide +kernel)
theorem kl_L_35 : Cond.methodLink RL 35 yX10_removeMessage ∈ tbG := tb_at 864 (by decide +kernel) (by decide +kernel)
theorem kl_X10_110 : Cond.methodLink RX10 110 yX10_isMessage ∈ tbG := tb_at 868 (by decide +kernel) (by decide +kernel)
theorem kl_L_39 : Cond.methodLink RL 39 yX10_appendCharacter ∈ tbG := tb_at 872 (by decide +kernel) (by decide +kernel)
theorem kl_L_44 : Cond.methodLink RL 44 yX10_clearText ∈ tbG := tb_at 876 (by decide +kernel) (by decide +kernel)
theorem kl_L_48 : Cond.methodLink RL 48 yX10_load ∈ tbG := tb_at 880 (by decide +kernel) (by decide +kernel)
theorem kl_X10_123 : Cond.methodLink RX10 123 yX10_skips ∈ tbG := tb_at 884 (by decide +kernel) (by decide +kernel)
theorem kl_X10_119 : Cond.methodLink RX10 119 yX10_here ∈ tbG := tb_at 888 (by decide +kernel) (by decide +kernel)
theorem kl_X10_129 : Cond.methodLink RX10 129 yX10_isLetter ∈ tbG := tb_at 892 (by decide +kernel) (by decide +kernel)
theorem kl_X10_126 : Cond.methodLink RX10 126 yX10_digitOf ∈ tbG := tb_at 896 (by decide +kernel) (by decide +kernel)
theorem kl_X10_133 : Cond.methodLink RX10 133 yX10_isText ∈ tbG := tb_at 899 (by decide +kernel) (by decide +kernel)
theorem kl_L_52 : Cond.methodLink RL 52 yX10_show ∈ tbG := tb_at 903 (by decide +kernel) (by decide +kernel)
theorem kl_X10_139 : Cond.methodLink RX10 139 yX10_isShow ∈ tbG := tb_at 907 (by decide +kernel) (by decide +kernel)
theorem kl_X10_142 : Cond.methodLink RX10 142 yX10_aims ∈ tbG := tb_at 911 (by decide +kernel) (by decide +kernel)
theorem kl_X10_136 : Cond.methodLink RX10 136 yX10_shiftFor ∈ tbG := tb_at 915 (by decide +kernel) (by decide +kernel)
theorem kl_X10_83 : Cond.methodLink RX10 83 yX10_bestOf ∈ tbG := tb_at 919 (by decide +kernel) (by decide +kernel)
theorem kl_X10_75 : Cond.methodLink RX10 75 yX10_lays ∈ tbG := tb_at 923 (by decide +kernel) (by decide +kernel)
theorem kl_X10_65 : Cond.methodLink RX10 65 yX10_stripOf ∈ tbG := tb_at 927 (by decide +kernel) (by decide +kernel)
theorem kl_X10_54 : Cond.methodLink RX10 54 yX10_lengthOf ∈ tbG := tb_at 931 (by decide +kernel) (by decide +kernel)
theorem kl_X10_58 : Cond.methodLink RX10 58 yX10_characterOf ∈ tbG := tb_at 935 (by decide +kernel) (by decide +kernel)
theorem kl_X10_62 : Cond.methodLink RX10 62 yX10_wideOf ∈ tbG := tb_at 939 (by decide +kernel) (by decide +kernel)
theorem kl_X10_68 : Cond.methodLink RX10 68 yX10_isColumn ∈ tbG := tb_at 943 (by decide +kernel) (by decide +kernel)
theorem kl_X10_79 : Cond.methodLink RX10 79 yX10_differs ∈ tbG := tb_at 947 (by decide +kernel) (by decide +kernel)
theorem kl_X10_72 : Cond.methodLink RX10 72 yX10_bits ∈ tbG := tb_at 951 (by decide +kernel) (by decide +kernel)
theorem kl_X10_145 : Cond.methodLink RX10 145 yX10_dueMany ∈ tbG := tb_at 954 (by decide +kernel) (by decide +kernel)
theorem kl_X10_86 : Cond.methodLink RX10 86 yX10_dueOf ∈ tbG := tb_at 958 (by decide +kernel) (by decide +kernel)
theorem kl_L_56 : Cond.methodLink RL 56 yX10_darken ∈ tbG := tb_at 962 (by decide +kernel) (by decide +kernel)
theorem kl_L_60 : Cond.methodLink RL 60 yX10_jam ∈ tbG := tb_at 966 (by decide +kernel) (by decide +kernel)
theorem kl_X10_148 : Cond.methodLink RX10 148 yX10_isDot ∈ tbG := tb_at 970 (by decide +kernel) (by decide +kernel)
theorem kl_L_64 : Cond.methodLink RL 64 yX10_mend ∈ tbG := tb_at 974 (by decide +kernel) (by decide +kernel)
theorem kl_L_68 : Cond.methodLink RL 68 yX10_pass ∈ tbG := tb_at 978 (by decide +kernel) (by decide +kernel)
theorem kl_X10_151 : Cond.methodLink RX10 151 yX10_second ∈ tbG := tb_at 982 (by decide +kernel) (by decide +kernel)
theorem kl_X10_89 : Cond.methodLink RX10 89 yX10_nextColumn ∈ tbG := tb_at 986 (by decide +kernel) (by decide +kernel)
theorem kl_X10_92 : Cond.methodLink RX10 92 yX10_flipsAt ∈ tbG := tb_at 990 (by decide +kernel) (by decide +kernel)
theorem kl_L_72 : Cond.methodLink RL 72 yX10_count ∈ tbG := tb_at 994 (by decide +kernel) (by decide +kernel)
theorem kl_X10_154 : Cond.methodLink RX10 154 yX10_bitsOf ∈ tbG := tb_at 998 (by decide +kernel) (by decide +kernel)
theorem kl_X10_157 : Cond.methodLink RX10 157 yX10_offMany ∈ tbG := tb_at 1002 (by decide +kernel) (by decide +kernel)
theorem kl_L_76 : Cond.methodLink RL 76 yX10_column ∈ tbG := tb_at 1006 (by decide +kernel) (by decide +kernel)
theorem kl_L_80 : Cond.methodLink RL 80 yX10_flips ∈ tbG := tb_at 1010 (by decide +kernel) (by decide +kernel)
theorem kl_L_84 : Cond.methodLink RL 84 yX10_letter ∈ tbG := tb_at 1014 (by decide +kernel) (by decide +kernel)
theorem kl_L_88 : Cond.methodLink RL 88 yX10_message ∈ tbG := tb_at 1018 (by decide +kernel) (by decide +kernel)
theorem kl_L_92 : Cond.methodLink RL 92 yX10_strip ∈ tbG := tb_at 1022 (by decide +kernel) (by decide +kernel)
theorem kl_L_96 : Cond.methodLink RL 96 yX10_picture ∈ tbG := tb_at 1026 (by decide +kernel) (by decide +kernel)
theorem kl_L_100 : Cond.methodLink RL 100 yX10_power ∈ tbG := tb_at 1030 (by decide +kernel) (by decide +kernel)
theorem kl_L_104 : Cond.methodLink RL 104 yX10_bestShift ∈ tbG := tb_at 1034 (by decide +kernel) (by decide +kernel)
theorem kl_L_108 : Cond.methodLink RL 108 yX10_due ∈ tbG := tb_at 1038 (by decide +kernel) (by decide +kernel)
theorem kl_L_112 : Cond.methodLink RL 112 yX10_secondsFor ∈ tbG := tb_at 1042 (by decide +kernel) (by decide +kernel)
theorem kl_L_116 : Cond.methodLink RL 116 yX10_between ∈ tbG := tb_at 1046 (by decide +kernel) (by decide +kernel)
theorem kl_X10_160 : Cond.methodLink RX10 160 yX10_betweenOf ∈ tbG := tb_at 1050 (by decide +kernel) (by decide +kernel)
theorem kl_L_120 : Cond.methodLink RL 120 yX10_bestOrder ∈ tbG := tb_at 1054 (by decide +kernel) (by decide +kernel)
theorem kl_X10_169 : Cond.methodLink RX10 169 yX10_laysFlips ∈ tbG := tb_at 1058 (by decide +kernel) (by decide +kernel)
theorem kl_X10_172 : Cond.methodLink RX10 172 yX10_flipsFor ∈ tbG := tb_at 1062 (by decide +kernel) (by decide +kernel)
theorem kl_X10_175 : Cond.methodLink RX10 175 yX10_goesOn ∈ tbG := tb_at 1066 (by decide +kernel) (by decide +kernel)
theorem kl_X10_166 : Cond.methodLink RX10 166 yX10_swaps ∈ tbG := tb_at 1070 (by decide +kernel) (by decide +kernel)
theorem kl_L_124 : Cond.methodLink RL 124 yX10_undo ∈ tbG := tb_at 1074 (by decide +kernel) (by decide +kernel)
theorem kl_X9_9 : Cond.methodLinkNest RX9 9 yX8_init "FlipBoard" ∈ lw_tbl := List.mem_of_getElem? (i := 74) (by decide +kernel)
theorem kl_X8_11 : Cond.methodLinkNest RX8 11 yX0_init "FlipBoard" ∈ lw_tbl := List.mem_of_getElem? (i := 80) (by decide +kernel)
theorem kl_X8_20 : Cond.methodLinkNest RX8 20 yX3_init "FlipBoard" ∈ lw_tbl := List.mem_of_getElem? (i := 114) (by decide +kernel)
theorem kl_X8_27 : Cond.methodLinkNest RX8 27 yX7_init "FlipBoard" ∈ lw_tbl := List.mem_of_getElem? (i := 142) (by decide +kernel)
theorem kl_X2_24 : Cond.methodLinkNest RX2 24 yX8_init "FlipBoard" ∈ lw_tbl := List.mem_of_getElem? (i := 204) (by decide +kernel)
theorem kl_X9_28 : Cond.methodLinkNest RX9 28 yX5_init "FlipBoard" ∈ lw_tbl := List.mem_of_getElem? (i := 218) (by decide +kernel)
theorem kl_X9_35 : Cond.methodLinkNest RX9 35 yX1_init "FlipBoard" ∈ lw_tbl := List.mem_of_getElem? (i := 233) (by decide +kernel)
theorem kl_X9_42 : Cond.methodLinkNest RX9 42 yX6_init "FlipBoard" ∈ lw_tbl := List.mem_of_getElem? (i := 243) (by decide +kernel)
theorem kl_X6_11 : Cond.methodLinkNest RX6 11 yX7_init "FlipBoard" ∈ lw_tbl := List.mem_of_getElem? (i := 248) (by decide +kernel)
theorem kl_X9_49 : Cond.methodLinkNest RX9 49 yX4_init "FlipBoard" ∈ lw_tbl := List.mem_of_getElem? (i := 269) (by decide +kernel)
theorem kl_X0_31 : Cond.methodLinkNest RX0 31 yX9_copy "FlipBoard" ∈ lw_tbl := List.mem_of_getElem? (i := 342) (by decide +kernel)
theorem kl_X3_28 : Cond.methodLinkNest RX3 28 yX9_copy "FlipBoard" ∈ lw_tbl := List.mem_of_getElem? (i := 355) (by decide +kernel)
theorem kl_X7_28 : Cond.methodLinkNest RX7 28 yX9_copy "FlipBoard" ∈ lw_tbl := List.mem_of_getElem? (i := 360) (by decide +kernel)
theorem kl_X8_54 : Cond.methodLinkNest RX8 54 yX9_copy "FlipBoard" ∈ lw_tbl := List.mem_of_getElem? (i := 361) (by decide +kernel)
theorem kl_X4_64 : Cond.methodLinkNest RX4 64 yX9_copy "FlipBoard" ∈ lw_tbl := List.mem_of_getElem? (i := 737) (by decide +kernel)
theorem kc_L_7 : Cond.classLink RL 7 "FlipBoard" ∈ tbG := tb_at 64 (by decide +kernel) (by decide +kernel)
theorem kc_X9_7 : Cond.classLink RX9 7 "FlipBoard$State" ∈ tbG := tb_at 72 (by decide +kernel) (by decide +kernel)
theorem kc_X8_9 : Cond.classLink RX8 9 "FlipBoard$Dots" ∈ tbG := tb_at 78 (by decide +kernel) (by decide +kernel)
theorem kc_X8_18 : Cond.classLink RX8 18 "FlipBoard$Meter" ∈ tbG := tb_at 112 (by decide +kernel) (by decide +kernel)
theorem kc_X8_25 : Cond.classLink RX8 25 "FlipBoard$Script" ∈ tbG := tb_at 140 (by decide +kernel) (by decide +kernel)
theorem kc_X8_37 : Cond.classLink RX8 37 "[I" ∈ tbG := tb_at 172 (by decide +kernel) (by decide +kernel)
theorem kc_X9_19 : Cond.classLink RX9 19 "FlipBoard$History" ∈ tbG := tb_at 196 (by decide +kernel) (by decide +kernel)
theorem kc_X2_9 : Cond.classLink RX2 9 "FlipBoard$State" ∈ tbG := tb_at 202 (by decide +kernel) (by decide +kernel)
theorem kc_X9_26 : Cond.classLink RX9 26 "FlipBoard$Painter" ∈ tbG := tb_at 216 (by decide +kernel) (by decide +kernel)
theorem kc_X9_33 : Cond.classLink RX9 33 "FlipBoard$Flipper" ∈ tbG := tb_at 231 (by decide +kernel) (by decide +kernel)
theorem kc_X9_40 : Cond.classLink RX9 40 "FlipBoard$Reader" ∈ tbG := tb_at 241 (by decide +kernel) (by decide +kernel)
theorem kc_X6_9 : Cond.classLink RX6 9 "FlipBoard$Script" ∈ tbG := tb_at 247 (by decide +kernel) (by decide +kernel)
theorem kc_X9_47 : Cond.classLink RX9 47 "FlipBoard$Orders" ∈ tbG := tb_at 267 (by decide +kernel) (by decide +kernel)
theorem kc_X4_15 : Cond.classLink RX4 15 "[[I" ∈ tbG := tb_at 273 (by decide +kernel) (by decide +kernel)
theorem kc_L_10 : Cond.classLink RL 10 "FlipBoardModel" ∈ tbG := tb_at 776 (by decide +kernel) (by decide +kernel)
theorem kk_X5_54 : Cond.constant RX5 54 2147483647 ∈ tbG := tb_at 511 (by decide +kernel) (by decide +kernel)
theorem kk_J6_265 : Cond.constant RJ6 265 1431655765 ∈ tbG := tb_at 542 (by decide +kernel) (by decide +kernel)
theorem kk_J6_266 : Cond.constant RJ6 266 858993459 ∈ tbG := tb_at 543 (by decide +kernel) (by decide +kernel)
theorem kk_J6_267 : Cond.constant RJ6 267 252645135 ∈ tbG := tb_at 544 (by decide +kernel) (by decide +kernel)
theorem kk_X4_80 : Cond.constant RX4 80 2147483647 ∈ tbG := tb_at 752 (by decide +kernel) (by decide +kernel)
theorem ki_X9 : Cond.instantiable RX9 9 ∈ tbG ∧ Cond.initialized RX9 ∈ tbG := ⟨tb_at 65 (by decide +kernel) (by decide +kernel), tb_at 49 (by decide +kernel) (by decide +kernel)⟩
theorem ki_X8 : Cond.instantiable RX8 4 ∈ tbG ∧ Cond.initialized RX8 ∈ tbG := ⟨tb_at 73 (by decide +kernel) (by decide +kernel), tb_at 50 (by decide +kernel) (by decide +kernel)⟩
theorem ki_X0 : Cond.instantiable RX0 6 ∈ tbG ∧ Cond.initialized RX0 ∈ tbG := ⟨tb_at 79 (by decide +kernel) (by decide +kernel), tb_at 51 (by decide +kernel) (by decide +kernel)⟩
theorem ki_X3 : Cond.instantiable RX3 5 ∈ tbG ∧ Cond.initialized RX3 ∈ tbG := ⟨tb_at 113 (by decide +kernel) (by decide +kernel), tb_at 52 (by decide +kernel) (by decide +kernel)⟩
theorem ki_X7 : Cond.instantiable RX7 5 ∈ tbG ∧ Cond.initialized RX7 ∈ tbG := ⟨tb_at 141 (by decide +kernel) (by decide +kernel), tb_at 53 (by decide +kernel) (by decide +kernel)⟩
theorem ki_X2 : Cond.instantiable RX2 3 ∈ tbG ∧ Cond.initialized RX2 ∈ tbG := ⟨tb_at 197 (by decide +kernel) (by decide +kernel), tb_at 54 (by decide +kernel) (by decide +kernel)⟩
theorem ki_X5 : Cond.instantiable RX5 2 ∈ tbG ∧ Cond.initialized RX5 ∈ tbG := ⟨tb_at 217 (by decide +kernel) (by decide +kernel), tb_at 55 (by decide +kernel) (by decide +kernel)⟩
theorem ki_X1 : Cond.instantiable RX1 1 ∈ tbG ∧ Cond.initialized RX1 ∈ tbG := ⟨tb_at 232 (by decide +kernel) (by decide +kernel), tb_at 56 (by decide +kernel) (by decide +kernel)⟩
theorem ki_X6 : Cond.instantiable RX6 5 ∈ tbG ∧ Cond.initialized RX6 ∈ tbG := ⟨tb_at 242 (by decide +kernel) (by decide +kernel), tb_at 57 (by decide +kernel) (by decide +kernel)⟩
theorem ki_X4 : Cond.instantiable RX4 5 ∈ tbG ∧ Cond.initialized RX4 ∈ tbG := ⟨tb_at 268 (by decide +kernel) (by decide +kernel), tb_at 58 (by decide +kernel) (by decide +kernel)⟩
theorem ki_X10 : Cond.instantiable RX10 16 ∈ tbG ∧ Cond.initialized RX10 ∈ tbG := ⟨tb_at 777 (by decide +kernel) (by decide +kernel), tb_at 59 (by decide +kernel) (by decide +kernel)⟩
theorem k_arr : Cond.arrayClass .int ∈ tbG ∧ Cond.arrayOver (.array .int) ∈ lw_tbl ∧ Cond.arrayOver (.object RX8) ∈ lw_tbl ∧ Cond.castable "[I" "java/lang/Cloneable" ∈ lw_tbl := ⟨tb_at 111 (by decide +kernel) (by decide +kernel), List.mem_of_getElem? (i := 274) (by decide +kernel), List.mem_of_getElem? (i := 203) (by decide +kernel), List.mem_of_getElem? (i := 171) (by decide +kernel)⟩
theorem k_cl : Cond.sameMethod "[I" "java/lang/Object" "clone" "()Ljava/lang/Object;" ∈ tbG ∧ Cond.native ⟨"java/lang/Object", "clone", "()Ljava/lang/Object;"⟩ ∈ tbG ∧ Cond.instanceMethod ⟨"java/lang/Object", "clone", "()Ljava/lang/Object;"⟩ ∈ tbG ∧ Cond.selects "[I" ⟨"[I", "clone", "()Ljava/lang/Object;"⟩ ⟨"java/lang/Object", "clone", "()Ljava/lang/Object;"⟩ ∈ tbG := ⟨tb_at 167 (by decide +kernel) (by decide +kernel), tb_at 168 (by decide +kernel) (by decide +kernel), tb_at 169 (by decide +kernel) (by decide +kernel), tb_at 170 (by decide +kernel) (by decide +kernel)⟩
end
section
section AMORE
variable {X : CX} {own : String} {bytes : ByteArray} {ret : Option FieldType} {fr lo mc ms n1 : Nat} {post : Option Value → HP → Prop} {n k sl pc : Nat} {h : HP} {L : List (Option Value)} {st st0 : List Value}
variable {y : MethodName} {b' : ByteArray} {nL' np : Nat} {ret' : Option FieldType} {fr' lo' ix a ci : Nat} {As fs : List Value} {post' : Option Value → HP → Prop} {C : String} {T : u_T} {N : Nat}
abbrev PR (r : Value) (h : HP) : Option Value → HP → Prop := fun v h' => v = some r ∧ h' = h
theorem aw_ialdN (hX : Cx X own bytes ret fr lo mc ms n1 post) (j : Nat) {f : Nat → Int32} {i : Int32} (hh : h a = some (cI N f)) (hi : i = nI j) (hj : j < N) (hN : N < 2 ^ 31) (hdg : decode bytes pc = .ok (.iaload, 1)) (kk : AW X n h k sl (pc + 1) L (.int (f j) :: st)) : AW X n h k sl pc L (.int i :: .ref a :: st) := by
  subst hi
  refine aw_iald hX hh (vp_in_nI hj hN) hdg ?_
  rw [nI_clamp (Nat.lt_trans hj hN)]
  exact kk
theorem aw_iastN (hX : Cx X own bytes ret fr lo mc ms n1 post) (j : Nat) {f : Nat → Int32} {i x : Int32} (hh : h a = some (cI N f)) (hi : i = nI j) (hj : j < N) (hN : N < 2 ^ 31) (hdg : decode bytes pc = .ok (.iastore, 1)) (kk : AW X n (hset h a (cI N (upd f j x))) k sl (pc + 1) L st) : AW X n h k sl pc L (.int x :: .int i :: .ref a :: st) := by
  subst hi
  refine aw_iast hX hh (vp_in_nI hj hN) hdg ?_
  rw [nI_clamp (Nat.lt_trans hj hN)]
  exact kk
theorem aw_aaldN (hX : Cx X own bytes ret fr lo mc ms n1 post) (j : Nat) {t b : Nat} {g : Nat → Option Nat} {i : Int32} (hh : h a = some (cG t N g)) (ht : t = 1 ∨ t = 2) (hi : i = nI j) (hj : j < N) (hN : N < 2 ^ 31) (hb : g j = some b) (hdg : decode bytes pc = .ok (.aaload, 1)) (kk : AW X n h k sl (pc + 1) L (.ref b :: st)) : AW X n h k sl pc L (.int i :: .ref a :: st) := by
  subst hi
  exact aw_aald hX hh ht (vp_in_nI hj hN) (by rw [nI_clamp (Nat.lt_trans hj hN)]; exact hb) hdg kk
theorem aw_roaldN (hX : Cx X own bytes ret fr lo mc ms n1 post) (j : Nat) {i : Int32} (ha : a < 5) (hi : i = nI j) (hj : j < eN X.E a) (hN : eN X.E a < 2 ^ 31) (hdg : decode bytes pc = .ok (.iaload, 1)) (kk : AW X n h k sl (pc + 1) L (.int (eF X.E a j) :: st)) : AW X n h k sl pc L (.int i :: .ref a :: st) := by
  subst hi
  refine aw_roald hX ha (vp_in_nI hj hN) hdg ?_
  rw [nI_clamp (Nat.lt_trans hj hN)]
  exact kk

theorem aw_callV0 (hX : Cx X own bytes ret fr lo mc ms n1 post) (own2 : String) (ho : own2 = own) (hM : AM X.l y b' nL' ret' fr' lo' 0 0 X.E n h (.ref a :: As) post') (hst0 : As.reverse ++ .ref a :: st = st0) (hy : MF y b' nL' ret' np) (hi : Cond.instanceMethod y ∈ tbG) (hsel : Cond.selects y.cls y y ∈ tbG) (hlink : Cond.methodLink own2 ix y ∈ tbG) (hh : h a = some (cO ci fs)) (hcl : vwCl[ci]? = some (y.cls, T, N)) (hnp : As.length = np) (hR : fr' + 1 ≤ fr ∧ 8 + (nL' + 11) + lo' ≤ lo) (hst : (st.map fun v => v.category).sum ≤ 8) (hdg : decode bytes pc = .ok (.invokevirtual ix, 3)) (hf : k ≤ mc ∧ sl ≤ ms) (kk : ∀ v h', post' v h' → AW X n h' k sl (pc + 3) L (v.toList ++ st)) : AW X n h k sl pc L st0 :=
  aw_callV hX own2 ho hM hst0 hy hi hsel hlink hh hcl hnp hR hst hdg hf kk
theorem aw_callVp (hX : Cx X own bytes ret fr lo mc ms n1 post) (own2 : String) (ho : own2 = own) {r : Value} (hM : AM X.l y b' nL' ret' fr' lo' 0 0 X.E n h (.ref a :: As) (PR r h)) (hst0 : As.reverse ++ .ref a :: st = st0) (hy : MF y b' nL' ret' np) (hi : Cond.instanceMethod y ∈ tbG) (hsel : Cond.selects y.cls y y ∈ tbG) (hlink : Cond.methodLink own2 ix y ∈ tbG) (hh : h a = some (cO ci fs)) (hcl : vwCl[ci]? = some (y.cls, T, N)) (hnp : As.length = np) (hR : fr' + 1 ≤ fr ∧ 8 + (nL' + 11) + lo' ≤ lo) (hst : (st.map fun v => v.category).sum ≤ 8) (hdg : decode bytes pc = .ok (.invokevirtual ix, 3)) (hf : k ≤ mc ∧ sl ≤ ms) (kk : AW X n h k sl (pc + 3) L (r :: st)) : AW X n h k sl pc L st0 :=
  aw_callV hX own2 ho hM hst0 hy hi hsel hlink hh hcl hnp hR hst hdg hf (fun v h' hp => by obtain ⟨rfl, rfl⟩ := hp; exact kk)
theorem aw_callVN0 (hX : Cx X own bytes ret fr lo mc ms n1 post) (own2 host : String) (ho : own2 = own) (hM : AM X.l y b' nL' ret' fr' lo' 0 0 X.E n h (.ref a :: As) post') (hst0 : As.reverse ++ .ref a :: st = st0) (hy : MF y b' nL' ret' np) (hi : Cond.instanceMethod y ∈ tbG) (hsel : Cond.selects y.cls y y ∈ tbG) (hlink : Cond.methodLinkNest own2 ix y host ∈ lw_tbl) (hh : h a = some (cO ci fs)) (hcl : vwCl[ci]? = some (y.cls, T, N)) (hnp : As.length = np) (hR : fr' + 1 ≤ fr ∧ 8 + (nL' + 11) + lo' ≤ lo) (hst : (st.map fun v => v.category).sum ≤ 8) (hdg : decode bytes pc = .ok (.invokevirtual ix, 3)) (hf : k ≤ mc ∧ sl ≤ ms) (kk : ∀ v h', post' v h' → AW X n h' k sl (pc + 3) L (v.toList ++ st)) : AW X n h k sl pc L st0 :=
  aw_callVN hX own2 host ho hM hst0 hy hi hsel hlink hh hcl hnp hR hst hdg hf kk
theorem aw_callVNp (hX : Cx X own bytes ret fr lo mc ms n1 post) (own2 host : String) (ho : own2 = own) {r : Value} (hM : AM X.l y b' nL' ret' fr' lo' 0 0 X.E n h (.ref a :: As) (PR r h)) (hst0 : As.reverse ++ .ref a :: st = st0) (hy : MF y b' nL' ret' np) (hi : Cond.instanceMethod y ∈ tbG) (hsel : Cond.selects y.cls y y ∈ tbG) (hlink : Cond.methodLinkNest own2 ix y host ∈ lw_tbl) (hh : h a = some (cO ci fs)) (hcl : vwCl[ci]? = some (y.cls, T, N)) (hnp : As.length = np) (hR : fr' + 1 ≤ fr ∧ 8 + (nL' + 11) + lo' ≤ lo) (hst : (st.map fun v => v.category).sum ≤ 8) (hdg : decode bytes pc = .ok (.invokevirtual ix, 3)) (hf : k ≤ mc ∧ sl ≤ ms) (kk : AW X n h k sl (pc + 3) L (r :: st)) : AW X n h k sl pc L st0 :=
  aw_callVN hX own2 host ho hM hst0 hy hi hsel hlink hh hcl hnp hR hst hdg hf (fun v h' hp => by obtain ⟨rfl, rfl⟩ := hp; exact kk)
theorem aw_callS0 (hX : Cx X own bytes ret fr lo mc ms n1 post) (own2 : String) (ho : own2 = own) (hM : AM X.l y b' nL' ret' fr' lo' 0 0 X.E n h As post') (hst0 : As.reverse ++ st = st0) (hy : MF y b' nL' ret' np) (hs : Cond.static y ∈ tbG) (hlink : Cond.methodLink own2 ix y ∈ tbG) (hnp : As.length = np) (hR : fr' + 1 ≤ fr ∧ 8 + (nL' + 11) + lo' ≤ lo) (hst : (st.map fun v => v.category).sum ≤ 8) (hdg : decode bytes pc = .ok (.invokestatic ix, 3)) (hf : k ≤ mc ∧ sl ≤ ms) (kk : ∀ v h', post' v h' → AW X n h' k sl (pc + 3) L (v.toList ++ st)) : AW X n h k sl pc L st0 :=
  aw_callS hX own2 ho hM hst0 hy hs hlink hnp hR hst hdg hf kk
theorem aw_callSp (hX : Cx X own bytes ret fr lo mc ms n1 post) (own2 : String) (ho : own2 = own) {r : Value} (hM : AM X.l y b' nL' ret' fr' lo' 0 0 X.E n h As (PR r h)) (hst0 : As.reverse ++ st = st0) (hy : MF y b' nL' ret' np) (hs : Cond.static y ∈ tbG) (hlink : Cond.methodLink own2 ix y ∈ tbG) (hnp : As.length = np) (hR : fr' + 1 ≤ fr ∧ 8 + (nL' + 11) + lo' ≤ lo) (hst : (st.map fun v => v.category).sum ≤ 8) (hdg : decode bytes pc = .ok (.invokestatic ix, 3)) (hf : k ≤ mc ∧ sl ≤ ms) (kk : AW X n h k sl (pc + 3) L (r :: st)) : AW X n h k sl pc L st0 :=
  aw_callS hX own2 ho hM hst0 hy hs hlink hnp hR hst hdg hf (fun v h' hp => by obtain ⟨rfl, rfl⟩ := hp; exact kk)
theorem aw_callSN0 (hX : Cx X own bytes ret fr lo mc ms n1 post) (own2 host : String) (ho : own2 = own) (hM : AM X.l y b' nL' ret' fr' lo' 0 0 X.E n h As post') (hst0 : As.reverse ++ st = st0) (hy : MF y b' nL' ret' np) (hs : Cond.static y ∈ tbG) (hlink : Cond.methodLinkNest own2 ix y host ∈ lw_tbl) (hnp : As.length = np) (hR : fr' + 1 ≤ fr ∧ 8 + (nL' + 11) + lo' ≤ lo) (hst : (st.map fun v => v.category).sum ≤ 8) (hdg : decode bytes pc = .ok (.invokestatic ix, 3)) (hf : k ≤ mc ∧ sl ≤ ms) (kk : ∀ v h', post' v h' → AW X n h' k sl (pc + 3) L (v.toList ++ st)) : AW X n h k sl pc L st0 :=
  aw_callSN hX own2 host ho hM hst0 hy hs hlink hnp hR hst hdg hf kk
theorem aw_callSNp (hX : Cx X own bytes ret fr lo mc ms n1 post) (own2 host : String) (ho : own2 = own) {r : Value} (hM : AM X.l y b' nL' ret' fr' lo' 0 0 X.E n h As (PR r h)) (hst0 : As.reverse ++ st = st0) (hy : MF y b' nL' ret' np) (hs : Cond.static y ∈ tbG) (hlink : Cond.methodLinkNest own2 ix y host ∈ lw_tbl) (hnp : As.length = np) (hR : fr' + 1 ≤ fr ∧ 8 + (nL' + 11) + lo' ≤ lo) (hst : (st.map fun v => v.category).sum ≤ 8) (hdg : decode bytes pc = .ok (.invokestatic ix, 3)) (hf : k ≤ mc ∧ sl ≤ ms) (kk : AW X n h k sl (pc + 3) L (r :: st)) : AW X n h k sl pc L st0 :=
  aw_callSN hX own2 host ho hM hst0 hy hs hlink hnp hR hst hdg hf (fun v h' hp => by obtain ⟨rfl, rfl⟩ := hp; exact kk)
end AMORE
/-- outside lo .. hi - 1 nothing has changed -/
def Sm (lo hi : Nat) (h h' : HP) : Prop := ∀ q, (q < lo ∨ hi ≤ q) → h' q = h q
theorem Sm.rf {lo hi : Nat} {h : HP} : Sm lo hi h h := fun _ _ => rfl
theorem Sm.set {lo hi a : Nat} {h h' : HP} {c : AC} (s : Sm lo hi h h') (h1 : lo ≤ a) (h2 : a < hi) : Sm lo hi h (hset h' a c) := fun q hq => (hset_ne h' c (by omega)).trans (s q hq)
theorem Sm.tr {lo hi lo' hi' : Nat} {h h1 h2 : HP} (s : Sm lo hi h h1) (t : Sm lo' hi' h1 h2) (g1 : lo ≤ lo') (g2 : hi' ≤ hi) : Sm lo hi h h2 := fun q hq => (t q (by omega)).trans (s q hq)
theorem Sm.at {lo hi : Nat} {h h' : HP} (s : Sm lo hi h h') {q : Nat} (hq : q < lo ∨ hi ≤ q) : h' q = h q := s q hq
theorem sw_cases (hi : Nat) (x : Int32) (hh : hi < 2 ^ 31) : (x.toInt < 0 ∨ (hi : Int) < x.toInt) ∨ ∃ j : Nat, j ≤ hi ∧ x = nI j := by
  by_cases h1 : x.toInt < 0
  · exact Or.inl (Or.inl h1)
  · by_cases h2 : (hi : Int) < x.toInt
    · exact Or.inl (Or.inr h2)
    · refine Or.inr ⟨x.toInt.toNat, by omega, Int32.toInt_inj.mp ?_⟩
      rw [nI_toInt (by omega)]
      omega
def bI (p : Prop) [Decidable p] : Int32 := if p then 1 else 0
theorem bI_t {p : Prop} [Decidable p] (h : p) : bI p = 1 := if_pos h
theorem bI_f {p : Prop} [Decidable p] (h : ¬ p) : bI p = 0 := if_neg h
theorem bI_01 (p : Prop) [Decidable p] : bI p = 0 ∨ bI p = 1 := by by_cases h : p <;> simp [bI, h]
theorem bI_eq0 {p : Prop} [Decidable p] : bI p = 0 ↔ ¬ p := by by_cases h : p <;> simp [bI, h]
theorem prT {p : Prop} [Decidable p] {h : HP} (q : p) : PR (.int (bI p)) h (some (.int 1)) h := ⟨by rw [bI_t q], rfl⟩
theorem prF {p : Prop} [Decidable p] {h : HP} (q : ¬ p) : PR (.int (bI p)) h (some (.int 0)) h := ⟨by rw [bI_f q], rfl⟩
def sumI (f : Nat → Int32) : Nat → Int32
  | 0 => 0
  | n + 1 => sumI f n + f n

abbrev MX0_init (l : Launch) (E : EV) (n : Nat) (h : HP) (As : List Value) (post : Option Value → HP → Prop) : Prop := AM l yX0_init cX0_init 1 none 1 20 5 440 E n h As post
abbrev MJ9_min_7cf53 (l : Launch) (E : EV) (n : Nat) (h : HP) (As : List Value) (post : Option Value → HP → Prop) : Prop := AM l yJ9_min_7cf53 cJ9_min_7cf53 2 (some .int) 0 0 0 0 E n h As post
abbrev MX9_copy (l : Launch) (E : EV) (n : Nat) (h : HP) (As : List Value) (post : Option Value → HP → Prop) : Prop := AM l yX9_copy cX9_copy 2 none 1 60 0 0 E n h As post
abbrev MX0_copyFrom (l : Launch) (E : EV) (n : Nat) (h : HP) (As : List Value) (post : Option Value → HP → Prop) : Prop := AM l yX0_copyFrom cX0_copyFrom 2 none 2 81 0 0 E n h As post
abbrev MJ7_fill_53178 (l : Launch) (E : EV) (n : Nat) (h : HP) (As : List Value) (post : Option Value → HP → Prop) : Prop := AM l yJ7_fill_53178 cJ7_fill_53178 4 none 0 0 0 0 E n h As post
abbrev MX0_renew (l : Launch) (E : EV) (n : Nat) (h : HP) (As : List Value) (post : Option Value → HP → Prop) : Prop := AM l yX0_renew cX0_renew 2 none 1 23 0 0 E n h As post
abbrev MX0_hasColumn (l : Launch) (E : EV) (n : Nat) (h : HP) (As : List Value) (post : Option Value → HP → Prop) : Prop := AM l yX0_hasColumn cX0_hasColumn 2 (some .boolean) 0 0 0 0 E n h As post
abbrev MX0_hasDot (l : Launch) (E : EV) (n : Nat) (h : HP) (As : List Value) (post : Option Value → HP → Prop) : Prop := AM l yX0_hasDot cX0_hasDot 3 (some .boolean) 1 21 0 0 E n h As post
abbrev MX0_aimAt (l : Launch) (E : EV) (n : Nat) (h : HP) (As : List Value) (post : Option Value → HP → Prop) : Prop := AM l yX0_aimAt cX0_aimAt 2 none 2 81 0 0 E n h As post
abbrev MX0_aimAtDark (l : Launch) (E : EV) (n : Nat) (h : HP) (As : List Value) (post : Option Value → HP → Prop) : Prop := AM l yX0_aimAtDark cX0_aimAtDark 1 none 1 23 0 0 E n h As post
abbrev MX0_dueBits (l : Launch) (E : EV) (n : Nat) (h : HP) (As : List Value) (post : Option Value → HP → Prop) : Prop := AM l yX0_dueBits cX0_dueBits 2 (some .int) 1 21 0 0 E n h As post
abbrev MJ6_bitCount_0f7a4 (l : Launch) (E : EV) (n : Nat) (h : HP) (As : List Value) (post : Option Value → HP → Prop) : Prop := AM l yJ6_bitCount_0f7a4 cJ6_bitCount_0f7a4 1 (some .int) 0 0 0 0 E n h As post
abbrev MX0_differing (l : Launch) (E : EV) (n : Nat) (h : HP) (As : List Value) (post : Option Value → HP → Prop) : Prop := AM l yX0_differing cX0_differing 6 (some .int) 1 20 0 0 E n h As post
abbrev MX0_dueDots (l : Launch) (E : EV) (n : Nat) (h : HP) (As : List Value) (post : Option Value → HP → Prop) : Prop := AM l yX0_dueDots cX0_dueDots 1 (some .int) 2 45 0 0 E n h As post
abbrev MX0_dotsIn (l : Launch) (E : EV) (n : Nat) (h : HP) (As : List Value) (post : Option Value → HP → Prop) : Prop := AM l yX0_dotsIn cX0_dotsIn 3 (some .int) 1 20 0 0 E n h As post
abbrev MX0_stuckDots (l : Launch) (E : EV) (n : Nat) (h : HP) (As : List Value) (post : Option Value → HP → Prop) : Prop := AM l yX0_stuckDots cX0_stuckDots 1 (some .int) 2 42 0 0 E n h As post
abbrev MX0_knownDots (l : Launch) (E : EV) (n : Nat) (h : HP) (As : List Value) (post : Option Value → HP → Prop) : Prop := AM l yX0_knownDots cX0_knownDots 1 (some .int) 2 42 0 0 E n h As post
abbrev MX0_otherDots (l : Launch) (E : EV) (n : Nat) (h : HP) (As : List Value) (post : Option Value → HP → Prop) : Prop := AM l yX0_otherDots cX0_otherDots 3 (some .int) 1 20 0 0 E n h As post
abbrev MX0_knownAgainst (l : Launch) (E : EV) (n : Nat) (h : HP) (As : List Value) (post : Option Value → HP → Prop) : Prop := AM l yX0_knownAgainst cX0_knownAgainst 5 (some .int) 1 20 0 0 E n h As post
abbrev MX0_isStuck (l : Launch) (E : EV) (n : Nat) (h : HP) (As : List Value) (post : Option Value → HP → Prop) : Prop := AM l yX0_isStuck cX0_isStuck 3 (some .boolean) 2 43 0 0 E n h As post
abbrev MX0_stick (l : Launch) (E : EV) (n : Nat) (h : HP) (As : List Value) (post : Option Value → HP → Prop) : Prop := AM l yX0_stick cX0_stick 3 none 2 43 0 0 E n h As post
abbrev MX0_makeKnown (l : Launch) (E : EV) (n : Nat) (h : HP) (As : List Value) (post : Option Value → HP → Prop) : Prop := AM l yX0_makeKnown cX0_makeKnown 3 none 2 43 0 0 E n h As post
abbrev MX0_flip (l : Launch) (E : EV) (n : Nat) (h : HP) (As : List Value) (post : Option Value → HP → Prop) : Prop := AM l yX0_flip cX0_flip 3 none 2 43 0 0 E n h As post
abbrev MX0_flipsOf (l : Launch) (E : EV) (n : Nat) (h : HP) (As : List Value) (post : Option Value → HP → Prop) : Prop := AM l yX0_flipsOf cX0_flipsOf 3 (some .int) 2 43 0 0 E n h As post
abbrev MX0_renewDot (l : Launch) (E : EV) (n : Nat) (h : HP) (As : List Value) (post : Option Value → HP → Prop) : Prop := AM l yX0_renewDot cX0_renewDot 3 none 2 43 0 0 E n h As post
abbrev MX1_init (l : Launch) (E : EV) (n : Nat) (h : HP) (As : List Value) (post : Option Value → HP → Prop) : Prop := AM l yX1_init cX1_init 1 none 1 20 1 40 E n h As post
abbrev MX1_arrangeByDueDots (l : Launch) (E : EV) (n : Nat) (h : HP) (As : List Value) (post : Option Value → HP → Prop) : Prop := AM l yX1_arrangeByDueDots cX1_arrangeByDueDots 6 none 2 42 0 0 E n h As post
abbrev MX1_arrange (l : Launch) (E : EV) (n : Nat) (h : HP) (As : List Value) (post : Option Value → HP → Prop) : Prop := AM l yX1_arrange cX1_arrange 4 none 3 67 0 0 E n h As post
abbrev MX8_tryDot (l : Launch) (E : EV) (n : Nat) (h : HP) (As : List Value) (post : Option Value → HP → Prop) : Prop := AM l yX8_tryDot cX8_tryDot 3 none 3 65 0 0 E n h As post
abbrev MX1_flipColumn (l : Launch) (E : EV) (n : Nat) (h : HP) (As : List Value) (post : Option Value → HP → Prop) : Prop := AM l yX1_flipColumn cX1_flipColumn 7 (some .int) 4 87 0 0 E n h As post
abbrev MJ9_floorMod_7cf53 (l : Launch) (E : EV) (n : Nat) (h : HP) (As : List Value) (post : Option Value → HP → Prop) : Prop := AM l yJ9_floorMod_7cf53 cJ9_floorMod_7cf53 3 (some .int) 0 0 0 0 E n h As post
abbrev MX3_addSecond (l : Launch) (E : EV) (n : Nat) (h : HP) (As : List Value) (post : Option Value → HP → Prop) : Prop := AM l yX3_addSecond cX3_addSecond 2 none 1 22 0 0 E n h As post
abbrev MX1_passSecond (l : Launch) (E : EV) (n : Nat) (h : HP) (As : List Value) (post : Option Value → HP → Prop) : Prop := AM l yX1_passSecond cX1_passSecond 6 none 5 113 0 0 E n h As post
abbrev MX3_init (l : Launch) (E : EV) (n : Nat) (h : HP) (As : List Value) (post : Option Value → HP → Prop) : Prop := AM l yX3_init cX3_init 1 none 1 20 1 20 E n h As post
abbrev MX7_init (l : Launch) (E : EV) (n : Nat) (h : HP) (As : List Value) (post : Option Value → HP → Prop) : Prop := AM l yX7_init cX7_init 1 none 1 20 4 260 E n h As post
abbrev MX8_init (l : Launch) (E : EV) (n : Nat) (h : HP) (As : List Value) (post : Option Value → HP → Prop) : Prop := AM l yX8_init cX8_init 1 none 2 40 14 739 E n h As post
abbrev MX2_init (l : Launch) (E : EV) (n : Nat) (h : HP) (As : List Value) (post : Option Value → HP → Prop) : Prop := AM l yX2_init cX2_init 2 none 3 60 91 4464 E n h As post
abbrev MX2_stateAt (l : Launch) (E : EV) (n : Nat) (h : HP) (As : List Value) (post : Option Value → HP → Prop) : Prop := AM l yX2_stateAt cX2_stateAt 2 (some (.object "FlipBoard$State")) 1 22 0 0 E n h As post
abbrev MX3_copyFrom (l : Launch) (E : EV) (n : Nat) (h : HP) (As : List Value) (post : Option Value → HP → Prop) : Prop := AM l yX3_copyFrom cX3_copyFrom 2 none 2 81 0 0 E n h As post
abbrev MX7_copyFrom (l : Launch) (E : EV) (n : Nat) (h : HP) (As : List Value) (post : Option Value → HP → Prop) : Prop := AM l yX7_copyFrom cX7_copyFrom 2 none 2 81 0 0 E n h As post
abbrev MX8_copyFrom (l : Launch) (E : EV) (n : Nat) (h : HP) (As : List Value) (post : Option Value → HP → Prop) : Prop := AM l yX8_copyFrom cX8_copyFrom 2 none 3 102 0 0 E n h As post
abbrev MX2_keep (l : Launch) (E : EV) (n : Nat) (h : HP) (As : List Value) (post : Option Value → HP → Prop) : Prop := AM l yX2_keep cX2_keep 3 none 4 123 0 0 E n h As post
abbrev MX2_restore (l : Launch) (E : EV) (n : Nat) (h : HP) (As : List Value) (post : Option Value → HP → Prop) : Prop := AM l yX2_restore cX2_restore 3 none 4 123 0 0 E n h As post
abbrev MX3_renew (l : Launch) (E : EV) (n : Nat) (h : HP) (As : List Value) (post : Option Value → HP → Prop) : Prop := AM l yX3_renew cX3_renew 1 none 1 23 0 0 E n h As post
abbrev MX3_powerOf (l : Launch) (E : EV) (n : Nat) (h : HP) (As : List Value) (post : Option Value → HP → Prop) : Prop := AM l yX3_powerOf cX3_powerOf 2 (some .int) 1 22 0 0 E n h As post
abbrev MX4_init (l : Launch) (E : EV) (n : Nat) (h : HP) (As : List Value) (post : Option Value → HP → Prop) : Prop := AM l yX4_init cX4_init 1 none 1 20 48 518 E n h As post
abbrev MX7_hasMessage (l : Launch) (E : EV) (n : Nat) (h : HP) (As : List Value) (post : Option Value → HP → Prop) : Prop := AM l yX7_hasMessage cX7_hasMessage 2 (some .boolean) 0 0 0 0 E n h As post
abbrev MX7_lengthOf (l : Launch) (E : EV) (n : Nat) (h : HP) (As : List Value) (post : Option Value → HP → Prop) : Prop := AM l yX7_lengthOf cX7_lengthOf 2 (some .int) 1 21 0 0 E n h As post
abbrev MJ9_max_7cf53 (l : Launch) (E : EV) (n : Nat) (h : HP) (As : List Value) (post : Option Value → HP → Prop) : Prop := AM l yJ9_max_7cf53 cJ9_max_7cf53 2 (some .int) 0 0 0 0 E n h As post
abbrev MX7_characterOf (l : Launch) (E : EV) (n : Nat) (h : HP) (As : List Value) (post : Option Value → HP → Prop) : Prop := AM l yX7_characterOf cX7_characterOf 4 (some .int) 1 21 0 0 E n h As post
abbrev MX7_isLetter (l : Launch) (E : EV) (n : Nat) (h : HP) (As : List Value) (post : Option Value → HP → Prop) : Prop := AM l yX7_isLetter cX7_isLetter 2 (some .boolean) 0 0 0 0 E n h As post
abbrev MX7_widthOf (l : Launch) (E : EV) (n : Nat) (h : HP) (As : List Value) (post : Option Value → HP → Prop) : Prop := AM l yX7_widthOf cX7_widthOf 2 (some .int) 1 21 0 0 E n h As post
abbrev MX7_stripColumns (l : Launch) (E : EV) (n : Nat) (h : HP) (As : List Value) (post : Option Value → HP → Prop) : Prop := AM l yX7_stripColumns cX7_stripColumns 5 (some .int) 2 44 0 0 E n h As post
abbrev MX7_columnOf (l : Launch) (E : EV) (n : Nat) (h : HP) (As : List Value) (post : Option Value → HP → Prop) : Prop := AM l yX7_columnOf cX7_columnOf 4 (some .int) 1 21 0 0 E n h As post
abbrev MX7_stripBits (l : Launch) (E : EV) (n : Nat) (h : HP) (As : List Value) (post : Option Value → HP → Prop) : Prop := AM l yX7_stripBits cX7_stripBits 7 (some .int) 2 44 0 0 E n h As post
abbrev MX5_draw (l : Launch) (E : EV) (n : Nat) (h : HP) (As : List Value) (post : Option Value → HP → Prop) : Prop := AM l yX5_draw cX5_draw 9 none 3 70 0 0 E n h As post
abbrev MX4_gather (l : Launch) (E : EV) (n : Nat) (h : HP) (As : List Value) (post : Option Value → HP → Prop) : Prop := AM l yX4_gather cX4_gather 5 none 4 98 0 0 E n h As post
abbrev MX4_measure (l : Launch) (E : EV) (n : Nat) (h : HP) (As : List Value) (post : Option Value → HP → Prop) : Prop := AM l yX4_measure cX4_measure 4 none 2 45 0 0 E n h As post
abbrev MX4_wholeSet (l : Launch) (E : EV) (n : Nat) (h : HP) (As : List Value) (post : Option Value → HP → Prop) : Prop := AM l yX4_wholeSet cX4_wholeSet 1 (some .int) 0 0 0 0 E n h As post
abbrev MX4_without (l : Launch) (E : EV) (n : Nat) (h : HP) (As : List Value) (post : Option Value → HP → Prop) : Prop := AM l yX4_without cX4_without 2 (some .int) 0 0 0 0 E n h As post
abbrev MX4_flipsBy (l : Launch) (E : EV) (n : Nat) (h : HP) (As : List Value) (post : Option Value → HP → Prop) : Prop := AM l yX4_flipsBy cX4_flipsBy 6 (some .int) 1 21 0 0 E n h As post
abbrev MX4_nextBehind (l : Launch) (E : EV) (n : Nat) (h : HP) (As : List Value) (post : Option Value → HP → Prop) : Prop := AM l yX4_nextBehind cX4_nextBehind 7 (some .int) 2 46 0 0 E n h As post
abbrev MX4_find (l : Launch) (E : EV) (n : Nat) (h : HP) (As : List Value) (post : Option Value → HP → Prop) : Prop := AM l yX4_find cX4_find 6 none 5 122 0 0 E n h As post
abbrev MX4_fewestFlips (l : Launch) (E : EV) (n : Nat) (h : HP) (As : List Value) (post : Option Value → HP → Prop) : Prop := AM l yX4_fewestFlips cX4_fewestFlips 2 (some .int) 1 20 0 0 E n h As post
abbrev MX4_messageAt (l : Launch) (E : EV) (n : Nat) (h : HP) (As : List Value) (post : Option Value → HP → Prop) : Prop := AM l yX4_messageAt cX4_messageAt 5 (some .int) 3 72 0 0 E n h As post
abbrev MX5_init (l : Launch) (E : EV) (n : Nat) (h : HP) (As : List Value) (post : Option Value → HP → Prop) : Prop := AM l yX5_init cX5_init 1 none 1 20 2 80 E n h As post
abbrev MX5_bestShiftOf (l : Launch) (E : EV) (n : Nat) (h : HP) (As : List Value) (post : Option Value → HP → Prop) : Prop := AM l yX5_bestShiftOf cX5_bestShiftOf 12 (some .int) 4 98 0 0 E n h As post
abbrev MX5_drawAs (l : Launch) (E : EV) (n : Nat) (h : HP) (As : List Value) (post : Option Value → HP → Prop) : Prop := AM l yX5_drawAs cX5_drawAs 5 none 5 129 0 0 E n h As post
abbrev MX6_init (l : Launch) (E : EV) (n : Nat) (h : HP) (As : List Value) (post : Option Value → HP → Prop) : Prop := AM l yX6_init cX6_init 1 none 2 40 5 265 E n h As post
abbrev MX7_startMessage (l : Launch) (E : EV) (n : Nat) (h : HP) (As : List Value) (post : Option Value → HP → Prop) : Prop := AM l yX7_startMessage cX7_startMessage 1 none 0 0 0 0 E n h As post
abbrev MX6_isSmallLetter (l : Launch) (E : EV) (n : Nat) (h : HP) (As : List Value) (post : Option Value → HP → Prop) : Prop := AM l yX6_isSmallLetter cX6_isSmallLetter 1 (some .boolean) 0 0 0 0 E n h As post
abbrev MX7_clearLetter (l : Launch) (E : EV) (n : Nat) (h : HP) (As : List Value) (post : Option Value → HP → Prop) : Prop := AM l yX7_clearLetter cX7_clearLetter 2 none 1 21 0 0 E n h As post
abbrev MX6_takesStart (l : Launch) (E : EV) (n : Nat) (h : HP) (As : List Value) (post : Option Value → HP → Prop) : Prop := AM l yX6_takesStart cX6_takesStart 2 (some .boolean) 2 42 0 0 E n h As post
abbrev MX6_takesEqualsSign (l : Launch) (E : EV) (n : Nat) (h : HP) (As : List Value) (post : Option Value → HP → Prop) : Prop := AM l yX6_takesEqualsSign cX6_takesEqualsSign 2 (some .boolean) 0 0 0 0 E n h As post
abbrev MX6_endItem (l : Launch) (E : EV) (n : Nat) (h : HP) (As : List Value) (post : Option Value → HP → Prop) : Prop := AM l yX6_endItem cX6_endItem 1 none 0 0 0 0 E n h As post
abbrev MX6_digitOf (l : Launch) (E : EV) (n : Nat) (h : HP) (As : List Value) (post : Option Value → HP → Prop) : Prop := AM l yX6_digitOf cX6_digitOf 1 (some .int) 0 0 0 0 E n h As post
abbrev MX6_takesFirstDigit (l : Launch) (E : EV) (n : Nat) (h : HP) (As : List Value) (post : Option Value → HP → Prop) : Prop := AM l yX6_takesFirstDigit cX6_takesFirstDigit 4 (some .boolean) 2 42 0 0 E n h As post
abbrev MX7_putColumn (l : Launch) (E : EV) (n : Nat) (h : HP) (As : List Value) (post : Option Value → HP → Prop) : Prop := AM l yX7_putColumn cX7_putColumn 4 none 1 21 0 0 E n h As post
abbrev MX6_takesSecondDigit (l : Launch) (E : EV) (n : Nat) (h : HP) (As : List Value) (post : Option Value → HP → Prop) : Prop := AM l yX6_takesSecondDigit cX6_takesSecondDigit 3 (some .boolean) 2 44 0 0 E n h As post
abbrev MX7_addCharacter (l : Launch) (E : EV) (n : Nat) (h : HP) (As : List Value) (post : Option Value → HP → Prop) : Prop := AM l yX7_addCharacter cX7_addCharacter 4 none 2 42 0 0 E n h As post
abbrev MX6_takesCharacter (l : Launch) (E : EV) (n : Nat) (h : HP) (As : List Value) (post : Option Value → HP → Prop) : Prop := AM l yX6_takesCharacter cX6_takesCharacter 3 (some .boolean) 3 65 0 0 E n h As post
abbrev MX6_takes (l : Launch) (E : EV) (n : Nat) (h : HP) (As : List Value) (post : Option Value → HP → Prop) : Prop := AM l yX6_takes cX6_takes 2 (some .boolean) 4 87 0 0 E n h As post
abbrev MX6_errorIn (l : Launch) (E : EV) (n : Nat) (h : HP) (As : List Value) (post : Option Value → HP → Prop) : Prop := AM l yX6_errorIn cX6_errorIn 5 (some .int) 5 108 0 0 E n h As post
abbrev MX7_dropMessage (l : Launch) (E : EV) (n : Nat) (h : HP) (As : List Value) (post : Option Value → HP → Prop) : Prop := AM l yX7_dropMessage cX7_dropMessage 5 none 1 21 0 0 E n h As post
abbrev MX8_hasNumber (l : Launch) (E : EV) (n : Nat) (h : HP) (As : List Value) (post : Option Value → HP → Prop) : Prop := AM l yX8_hasNumber cX8_hasNumber 2 (some .boolean) 0 0 0 0 E n h As post
abbrev MX9_init (l : Launch) (E : EV) (n : Nat) (h : HP) (As : List Value) (post : Option Value → HP → Prop) : Prop := AM l yX9_init cX9_init 1 none 4 81 183 6989 E n h As post
abbrev MX9_begin (l : Launch) (E : EV) (n : Nat) (h : HP) (As : List Value) (post : Option Value → HP → Prop) : Prop := AM l yX9_begin cX9_begin 3 (some .int) 5 145 0 0 E n h As post
abbrev MX9_setNumber (l : Launch) (E : EV) (n : Nat) (h : HP) (As : List Value) (post : Option Value → HP → Prop) : Prop := AM l yX9_setNumber cX9_setNumber 4 (some .int) 5 145 0 0 E n h As post
abbrev MX9_setColumn (l : Launch) (E : EV) (n : Nat) (h : HP) (As : List Value) (post : Option Value → HP → Prop) : Prop := AM l yX9_setColumn cX9_setColumn 4 (some .int) 5 145 0 0 E n h As post
abbrev MX9_addMessage (l : Launch) (E : EV) (n : Nat) (h : HP) (As : List Value) (post : Option Value → HP → Prop) : Prop := AM l yX9_addMessage cX9_addMessage 3 (some .int) 5 145 0 0 E n h As post
abbrev MX9_removeMessage (l : Launch) (E : EV) (n : Nat) (h : HP) (As : List Value) (post : Option Value → HP → Prop) : Prop := AM l yX9_removeMessage cX9_removeMessage 2 (some .int) 5 145 0 0 E n h As post
abbrev MX9_appendCharacter (l : Launch) (E : EV) (n : Nat) (h : HP) (As : List Value) (post : Option Value → HP → Prop) : Prop := AM l yX9_appendCharacter cX9_appendCharacter 2 (some .int) 0 0 0 0 E n h As post
abbrev MX9_clearText (l : Launch) (E : EV) (n : Nat) (h : HP) (As : List Value) (post : Option Value → HP → Prop) : Prop := AM l yX9_clearText cX9_clearText 2 (some .int) 0 0 0 0 E n h As post
abbrev MX9_load (l : Launch) (E : EV) (n : Nat) (h : HP) (As : List Value) (post : Option Value → HP → Prop) : Prop := AM l yX9_load cX9_load 2 (some .int) 6 145 0 0 E n h As post
abbrev MX9_canShow (l : Launch) (E : EV) (n : Nat) (h : HP) (As : List Value) (post : Option Value → HP → Prop) : Prop := AM l yX9_canShow cX9_canShow 3 (some .boolean) 1 21 0 0 E n h As post
abbrev MX9_show (l : Launch) (E : EV) (n : Nat) (h : HP) (As : List Value) (post : Option Value → HP → Prop) : Prop := AM l yX9_show cX9_show 3 (some .int) 6 153 0 0 E n h As post
abbrev MX9_darken (l : Launch) (E : EV) (n : Nat) (h : HP) (As : List Value) (post : Option Value → HP → Prop) : Prop := AM l yX9_darken cX9_darken 1 (some .int) 5 145 0 0 E n h As post
abbrev MX9_jam (l : Launch) (E : EV) (n : Nat) (h : HP) (As : List Value) (post : Option Value → HP → Prop) : Prop := AM l yX9_jam cX9_jam 3 (some .int) 5 145 0 0 E n h As post
abbrev MX9_mend (l : Launch) (E : EV) (n : Nat) (h : HP) (As : List Value) (post : Option Value → HP → Prop) : Prop := AM l yX9_mend cX9_mend 4 (some .int) 5 145 0 0 E n h As post
abbrev MX9_pass (l : Launch) (E : EV) (n : Nat) (h : HP) (As : List Value) (post : Option Value → HP → Prop) : Prop := AM l yX9_pass cX9_pass 3 (some .int) 6 145 0 0 E n h As post
abbrev MX9_count (l : Launch) (E : EV) (n : Nat) (h : HP) (As : List Value) (post : Option Value → HP → Prop) : Prop := AM l yX9_count cX9_count 2 (some .int) 3 65 0 0 E n h As post
abbrev MX9_column (l : Launch) (E : EV) (n : Nat) (h : HP) (As : List Value) (post : Option Value → HP → Prop) : Prop := AM l yX9_column cX9_column 3 (some .int) 1 21 0 0 E n h As post
abbrev MX9_flips (l : Launch) (E : EV) (n : Nat) (h : HP) (As : List Value) (post : Option Value → HP → Prop) : Prop := AM l yX9_flips cX9_flips 3 (some .int) 3 65 0 0 E n h As post
abbrev MX9_letter (l : Launch) (E : EV) (n : Nat) (h : HP) (As : List Value) (post : Option Value → HP → Prop) : Prop := AM l yX9_letter cX9_letter 3 (some .int) 2 44 0 0 E n h As post
abbrev MX9_message (l : Launch) (E : EV) (n : Nat) (h : HP) (As : List Value) (post : Option Value → HP → Prop) : Prop := AM l yX9_message cX9_message 3 (some .int) 2 44 0 0 E n h As post
abbrev MX9_strip (l : Launch) (E : EV) (n : Nat) (h : HP) (As : List Value) (post : Option Value → HP → Prop) : Prop := AM l yX9_strip cX9_strip 2 (some .int) 3 68 0 0 E n h As post
abbrev MX9_picture (l : Launch) (E : EV) (n : Nat) (h : HP) (As : List Value) (post : Option Value → HP → Prop) : Prop := AM l yX9_picture cX9_picture 4 (some .int) 4 98 0 0 E n h As post
abbrev MX9_power (l : Launch) (E : EV) (n : Nat) (h : HP) (As : List Value) (post : Option Value → HP → Prop) : Prop := AM l yX9_power cX9_power 2 (some .int) 2 43 0 0 E n h As post
abbrev MX9_bestShift (l : Launch) (E : EV) (n : Nat) (h : HP) (As : List Value) (post : Option Value → HP → Prop) : Prop := AM l yX9_bestShift cX9_bestShift 2 (some .int) 5 129 0 0 E n h As post
abbrev MX9_due (l : Launch) (E : EV) (n : Nat) (h : HP) (As : List Value) (post : Option Value → HP → Prop) : Prop := AM l yX9_due cX9_due 3 (some .int) 6 153 0 0 E n h As post
abbrev MX9_secondsFor (l : Launch) (E : EV) (n : Nat) (h : HP) (As : List Value) (post : Option Value → HP → Prop) : Prop := AM l yX9_secondsFor cX9_secondsFor 4 (some .int) 6 153 0 0 E n h As post
abbrev MX9_between (l : Launch) (E : EV) (n : Nat) (h : HP) (As : List Value) (post : Option Value → HP → Prop) : Prop := AM l yX9_between cX9_between 3 (some .int) 4 98 0 0 E n h As post
abbrev MX9_isSetToOrder (l : Launch) (E : EV) (n : Nat) (h : HP) (As : List Value) (post : Option Value → HP → Prop) : Prop := AM l yX9_isSetToOrder cX9_isSetToOrder 2 (some .boolean) 1 20 0 0 E n h As post
abbrev MX9_bestOrder (l : Launch) (E : EV) (n : Nat) (h : HP) (As : List Value) (post : Option Value → HP → Prop) : Prop := AM l yX9_bestOrder cX9_bestOrder 3 (some .int) 6 147 0 0 E n h As post
abbrev MX9_undo (l : Launch) (E : EV) (n : Nat) (h : HP) (As : List Value) (post : Option Value → HP → Prop) : Prop := AM l yX9_undo cX9_undo 1 (some .int) 5 145 0 0 E n h As post
abbrev MX10_init (l : Launch) (E : EV) (n : Nat) (h : HP) (As : List Value) (post : Option Value → HP → Prop) : Prop := AM l yX10_init cX10_init 1 none 1 20 12 6883 E n h As post
abbrev MX10_in (l : Launch) (E : EV) (n : Nat) (h : HP) (As : List Value) (post : Option Value → HP → Prop) : Prop := AM l yX10_in cX10_in 3 (some .boolean) 0 0 0 0 E n h As post
abbrev MX10_copies (l : Launch) (E : EV) (n : Nat) (h : HP) (As : List Value) (post : Option Value → HP → Prop) : Prop := AM l yX10_copies cX10_copies 3 none 0 0 0 0 E n h As post
abbrev MX10_hold (l : Launch) (E : EV) (n : Nat) (h : HP) (As : List Value) (post : Option Value → HP → Prop) : Prop := AM l yX10_hold cX10_hold 1 none 1 22 0 0 E n h As post
abbrev MX10_ends (l : Launch) (E : EV) (n : Nat) (h : HP) (As : List Value) (post : Option Value → HP → Prop) : Prop := AM l yX10_ends cX10_ends 3 (some .int) 0 0 0 0 E n h As post
abbrev MX10_isColumn (l : Launch) (E : EV) (n : Nat) (h : HP) (As : List Value) (post : Option Value → HP → Prop) : Prop := AM l yX10_isColumn cX10_isColumn 2 (some .boolean) 0 0 0 0 E n h As post
abbrev MX10_isMessage (l : Launch) (E : EV) (n : Nat) (h : HP) (As : List Value) (post : Option Value → HP → Prop) : Prop := AM l yX10_isMessage cX10_isMessage 2 (some .boolean) 0 0 0 0 E n h As post
abbrev MX10_bits (l : Launch) (E : EV) (n : Nat) (h : HP) (As : List Value) (post : Option Value → HP → Prop) : Prop := AM l yX10_bits cX10_bits 3 (some .int) 0 0 0 0 E n h As post
abbrev MX10_lengthOf (l : Launch) (E : EV) (n : Nat) (h : HP) (As : List Value) (post : Option Value → HP → Prop) : Prop := AM l yX10_lengthOf cX10_lengthOf 2 (some .int) 0 0 0 0 E n h As post
abbrev MX10_characterOf (l : Launch) (E : EV) (n : Nat) (h : HP) (As : List Value) (post : Option Value → HP → Prop) : Prop := AM l yX10_characterOf cX10_characterOf 3 (some .int) 0 0 0 0 E n h As post
abbrev MX10_wideOf (l : Launch) (E : EV) (n : Nat) (h : HP) (As : List Value) (post : Option Value → HP → Prop) : Prop := AM l yX10_wideOf cX10_wideOf 2 (some .int) 0 0 0 0 E n h As post
abbrev MX10_stripOf (l : Launch) (E : EV) (n : Nat) (h : HP) (As : List Value) (post : Option Value → HP → Prop) : Prop := AM l yX10_stripOf cX10_stripOf 4 (some .int) 1 22 0 0 E n h As post
abbrev MX10_lays (l : Launch) (E : EV) (n : Nat) (h : HP) (As : List Value) (post : Option Value → HP → Prop) : Prop := AM l yX10_lays cX10_lays 9 none 2 45 0 0 E n h As post
abbrev MX10_differs (l : Launch) (E : EV) (n : Nat) (h : HP) (As : List Value) (post : Option Value → HP → Prop) : Prop := AM l yX10_differs cX10_differs 8 (some .int) 1 22 0 0 E n h As post
abbrev MX10_bestOf (l : Launch) (E : EV) (n : Nat) (h : HP) (As : List Value) (post : Option Value → HP → Prop) : Prop := AM l yX10_bestOf cX10_bestOf 9 (some .int) 3 73 0 0 E n h As post
abbrev MX10_shiftFor (l : Launch) (E : EV) (n : Nat) (h : HP) (As : List Value) (post : Option Value → HP → Prop) : Prop := AM l yX10_shiftFor cX10_shiftFor 3 (some .int) 4 101 0 0 E n h As post
abbrev MX10_dueOf (l : Launch) (E : EV) (n : Nat) (h : HP) (As : List Value) (post : Option Value → HP → Prop) : Prop := AM l yX10_dueOf cX10_dueOf 2 (some .int) 0 0 0 0 E n h As post
abbrev MX10_dueMany (l : Launch) (E : EV) (n : Nat) (h : HP) (As : List Value) (post : Option Value → HP → Prop) : Prop := AM l yX10_dueMany cX10_dueMany 3 (some .int) 1 22 0 0 E n h As post
abbrev MX10_nextColumn (l : Launch) (E : EV) (n : Nat) (h : HP) (As : List Value) (post : Option Value → HP → Prop) : Prop := AM l yX10_nextColumn cX10_nextColumn 4 (some .int) 0 0 0 0 E n h As post
abbrev MX10_flipsAt (l : Launch) (E : EV) (n : Nat) (h : HP) (As : List Value) (post : Option Value → HP → Prop) : Prop := AM l yX10_flipsAt cX10_flipsAt 4 none 0 0 0 0 E n h As post
abbrev MX10_second (l : Launch) (E : EV) (n : Nat) (h : HP) (As : List Value) (post : Option Value → HP → Prop) : Prop := AM l yX10_second cX10_second 6 none 1 23 0 0 E n h As post
abbrev MX10_begin (l : Launch) (E : EV) (n : Nat) (h : HP) (As : List Value) (post : Option Value → HP → Prop) : Prop := AM l yX10_begin cX10_begin 4 (some .int) 2 42 0 0 E n h As post
abbrev MX10_isNumber (l : Launch) (E : EV) (n : Nat) (h : HP) (As : List Value) (post : Option Value → HP → Prop) : Prop := AM l yX10_isNumber cX10_isNumber 2 (some .boolean) 1 22 0 0 E n h As post
abbrev MX10_setNumber (l : Launch) (E : EV) (n : Nat) (h : HP) (As : List Value) (post : Option Value → HP → Prop) : Prop := AM l yX10_setNumber cX10_setNumber 4 (some .int) 2 43 0 0 E n h As post
abbrev MX10_setColumn (l : Launch) (E : EV) (n : Nat) (h : HP) (As : List Value) (post : Option Value → HP → Prop) : Prop := AM l yX10_setColumn cX10_setColumn 5 (some .int) 2 42 0 0 E n h As post
abbrev MX10_addMessage (l : Launch) (E : EV) (n : Nat) (h : HP) (As : List Value) (post : Option Value → HP → Prop) : Prop := AM l yX10_addMessage cX10_addMessage 4 (some .int) 2 42 0 0 E n h As post
abbrev MX10_removeMessage (l : Launch) (E : EV) (n : Nat) (h : HP) (As : List Value) (post : Option Value → HP → Prop) : Prop := AM l yX10_removeMessage cX10_removeMessage 3 (some .int) 2 42 0 0 E n h As post
abbrev MX10_appendCharacter (l : Launch) (E : EV) (n : Nat) (h : HP) (As : List Value) (post : Option Value → HP → Prop) : Prop := AM l yX10_appendCharacter cX10_appendCharacter 2 (some .int) 1 22 0 0 E n h As post
abbrev MX10_clearText (l : Launch) (E : EV) (n : Nat) (h : HP) (As : List Value) (post : Option Value → HP → Prop) : Prop := AM l yX10_clearText cX10_clearText 2 (some .int) 0 0 0 0 E n h As post
abbrev MX10_here (l : Launch) (E : EV) (n : Nat) (h : HP) (As : List Value) (post : Option Value → HP → Prop) : Prop := AM l yX10_here cX10_here 1 (some .int) 0 0 0 0 E n h As post
abbrev MX10_skips (l : Launch) (E : EV) (n : Nat) (h : HP) (As : List Value) (post : Option Value → HP → Prop) : Prop := AM l yX10_skips cX10_skips 1 none 1 20 0 0 E n h As post
abbrev MX10_digitOf (l : Launch) (E : EV) (n : Nat) (h : HP) (As : List Value) (post : Option Value → HP → Prop) : Prop := AM l yX10_digitOf cX10_digitOf 1 (some .int) 1 22 0 0 E n h As post
abbrev MX10_isLetter (l : Launch) (E : EV) (n : Nat) (h : HP) (As : List Value) (post : Option Value → HP → Prop) : Prop := AM l yX10_isLetter cX10_isLetter 5 (some .boolean) 2 42 0 0 E n h As post
abbrev MX10_isText (l : Launch) (E : EV) (n : Nat) (h : HP) (As : List Value) (post : Option Value → HP → Prop) : Prop := AM l yX10_isText cX10_isText 4 (some .boolean) 2 40 0 0 E n h As post
abbrev MX10_load (l : Launch) (E : EV) (n : Nat) (h : HP) (As : List Value) (post : Option Value → HP → Prop) : Prop := AM l yX10_load cX10_load 3 (some .int) 3 66 0 0 E n h As post
abbrev MX10_aims (l : Launch) (E : EV) (n : Nat) (h : HP) (As : List Value) (post : Option Value → HP → Prop) : Prop := AM l yX10_aims cX10_aims 4 none 5 123 0 0 E n h As post
abbrev MX10_isShow (l : Launch) (E : EV) (n : Nat) (h : HP) (As : List Value) (post : Option Value → HP → Prop) : Prop := AM l yX10_isShow cX10_isShow 3 (some .boolean) 1 22 0 0 E n h As post
abbrev MX10_show (l : Launch) (E : EV) (n : Nat) (h : HP) (As : List Value) (post : Option Value → HP → Prop) : Prop := AM l yX10_show cX10_show 3 (some .int) 6 146 0 0 E n h As post
abbrev MX10_darken (l : Launch) (E : EV) (n : Nat) (h : HP) (As : List Value) (post : Option Value → HP → Prop) : Prop := AM l yX10_darken cX10_darken 2 (some .int) 2 44 0 0 E n h As post
abbrev MX10_isDot (l : Launch) (E : EV) (n : Nat) (h : HP) (As : List Value) (post : Option Value → HP → Prop) : Prop := AM l yX10_isDot cX10_isDot 3 (some .boolean) 1 22 0 0 E n h As post
abbrev MX10_jam (l : Launch) (E : EV) (n : Nat) (h : HP) (As : List Value) (post : Option Value → HP → Prop) : Prop := AM l yX10_jam cX10_jam 3 (some .int) 2 44 0 0 E n h As post
abbrev MX10_mend (l : Launch) (E : EV) (n : Nat) (h : HP) (As : List Value) (post : Option Value → HP → Prop) : Prop := AM l yX10_mend cX10_mend 4 (some .int) 2 44 0 0 E n h As post
abbrev MX10_pass (l : Launch) (E : EV) (n : Nat) (h : HP) (As : List Value) (post : Option Value → HP → Prop) : Prop := AM l yX10_pass cX10_pass 3 (some .int) 2 48 0 0 E n h As post
abbrev MX10_bitsOf (l : Launch) (E : EV) (n : Nat) (h : HP) (As : List Value) (post : Option Value → HP → Prop) : Prop := AM l yX10_bitsOf cX10_bitsOf 4 (some .int) 1 22 0 0 E n h As post
abbrev MX10_offMany (l : Launch) (E : EV) (n : Nat) (h : HP) (As : List Value) (post : Option Value → HP → Prop) : Prop := AM l yX10_offMany cX10_offMany 3 (some .int) 1 22 0 0 E n h As post
abbrev MX10_count (l : Launch) (E : EV) (n : Nat) (h : HP) (As : List Value) (post : Option Value → HP → Prop) : Prop := AM l yX10_count cX10_count 2 (some .int) 2 45 0 0 E n h As post
abbrev MX10_column (l : Launch) (E : EV) (n : Nat) (h : HP) (As : List Value) (post : Option Value → HP → Prop) : Prop := AM l yX10_column cX10_column 3 (some .int) 1 22 0 0 E n h As post
abbrev MX10_flips (l : Launch) (E : EV) (n : Nat) (h : HP) (As : List Value) (post : Option Value → HP → Prop) : Prop := AM l yX10_flips cX10_flips 3 (some .int) 2 44 0 0 E n h As post
abbrev MX10_letter (l : Launch) (E : EV) (n : Nat) (h : HP) (As : List Value) (post : Option Value → HP → Prop) : Prop := AM l yX10_letter cX10_letter 3 (some .int) 1 22 0 0 E n h As post
abbrev MX10_message (l : Launch) (E : EV) (n : Nat) (h : HP) (As : List Value) (post : Option Value → HP → Prop) : Prop := AM l yX10_message cX10_message 3 (some .int) 1 22 0 0 E n h As post
abbrev MX10_strip (l : Launch) (E : EV) (n : Nat) (h : HP) (As : List Value) (post : Option Value → HP → Prop) : Prop := AM l yX10_strip cX10_strip 2 (some .int) 2 45 0 0 E n h As post
abbrev MX10_picture (l : Launch) (E : EV) (n : Nat) (h : HP) (As : List Value) (post : Option Value → HP → Prop) : Prop := AM l yX10_picture cX10_picture 4 (some .int) 3 73 0 0 E n h As post
abbrev MX10_power (l : Launch) (E : EV) (n : Nat) (h : HP) (As : List Value) (post : Option Value → HP → Prop) : Prop := AM l yX10_power cX10_power 2 (some .int) 1 22 0 0 E n h As post
abbrev MX10_bestShift (l : Launch) (E : EV) (n : Nat) (h : HP) (As : List Value) (post : Option Value → HP → Prop) : Prop := AM l yX10_bestShift cX10_bestShift 2 (some .int) 4 101 0 0 E n h As post
abbrev MX10_due (l : Launch) (E : EV) (n : Nat) (h : HP) (As : List Value) (post : Option Value → HP → Prop) : Prop := AM l yX10_due cX10_due 3 (some .int) 5 123 0 0 E n h As post
abbrev MX10_secondsFor (l : Launch) (E : EV) (n : Nat) (h : HP) (As : List Value) (post : Option Value → HP → Prop) : Prop := AM l yX10_secondsFor cX10_secondsFor 5 (some .int) 6 146 0 0 E n h As post
abbrev MX10_betweenOf (l : Launch) (E : EV) (n : Nat) (h : HP) (As : List Value) (post : Option Value → HP → Prop) : Prop := AM l yX10_betweenOf cX10_betweenOf 3 (some .int) 3 73 0 0 E n h As post
abbrev MX10_between (l : Launch) (E : EV) (n : Nat) (h : HP) (As : List Value) (post : Option Value → HP → Prop) : Prop := AM l yX10_between cX10_between 3 (some .int) 4 95 0 0 E n h As post
abbrev MX10_flipsFor (l : Launch) (E : EV) (n : Nat) (h : HP) (As : List Value) (post : Option Value → HP → Prop) : Prop := AM l yX10_flipsFor cX10_flipsFor 3 (some .int) 0 0 0 0 E n h As post
abbrev MX10_swaps (l : Launch) (E : EV) (n : Nat) (h : HP) (As : List Value) (post : Option Value → HP → Prop) : Prop := AM l yX10_swaps cX10_swaps 4 none 0 0 0 0 E n h As post
abbrev MX10_goesOn (l : Launch) (E : EV) (n : Nat) (h : HP) (As : List Value) (post : Option Value → HP → Prop) : Prop := AM l yX10_goesOn cX10_goesOn 5 (some .boolean) 1 23 0 0 E n h As post
abbrev MX10_laysFlips (l : Launch) (E : EV) (n : Nat) (h : HP) (As : List Value) (post : Option Value → HP → Prop) : Prop := AM l yX10_laysFlips cX10_laysFlips 3 none 4 95 0 0 E n h As post
abbrev MX10_bestOrder (l : Launch) (E : EV) (n : Nat) (h : HP) (As : List Value) (post : Option Value → HP → Prop) : Prop := AM l yX10_bestOrder cX10_bestOrder 7 (some .int) 5 117 0 0 E n h As post
abbrev MX10_undo (l : Launch) (E : EV) (n : Nat) (h : HP) (As : List Value) (post : Option Value → HP → Prop) : Prop := AM l yX10_undo cX10_undo 2 (some .int) 0 0 0 0 E n h As post
end
section
/-! what the modules hold -/
abbrev IF : Type := Nat → Int32
def HDots (h : HP) (d : Nat) (w : Int32) (sh ai st kn fl : IF) : Prop :=
  h d = some (cO 0 [.int w, .ref (d + 1), .ref (d + 2), .ref (d + 3), .ref (d + 4), .ref (d + 5)]) ∧ h (d + 1) = some (cI 40 sh) ∧ h (d + 2) = some (cI 40 ai) ∧ h (d + 3) = some (cI 40 st) ∧ h (d + 4) = some (cI 40 kn) ∧ h (d + 5) = some (cI 280 fl)
theorem HDots.sm {h h' : HP} {d lo hi : Nat} {w : Int32} {sh ai st kn fl : IF} (H : HDots h d w sh ai st kn fl) (s : Sm lo hi h h') (hq : hi ≤ d ∨ d + 6 ≤ lo) : HDots h' d w sh ai st kn fl :=
  ⟨(s.at (by omega)).trans H.1, (s.at (by omega)).trans H.2.1, (s.at (by omega)).trans H.2.2.1, (s.at (by omega)).trans H.2.2.2.1, (s.at (by omega)).trans H.2.2.2.2.1, (s.at (by omega)).trans H.2.2.2.2.2⟩
theorem tX0_hasColumn (l : Launch) (E : EV) (n : Nat) {h : HP} {d : Nat} {w : Int32} {sh ai st kn fl : IF} (H : HDots h d w sh ai st kn fl) (c : Int32) : MX0_hasColumn l E n h [.ref d, .int c] (PR (.int (bI (0 ≤ c ∧ c < w ∧ c < 40))) h) := by
  obtain ⟨e0, e1, e2, e3, e4, e5⟩ := H
  refine AM.intro mf_X0_hasColumn (by simp [Value.category]) (Nat.le_of_ble_eq_true rfl) (fun X hl hE hnm hX => ?_)
  subst hl
  subst hE
  show AW X _ _ 0 0 0 [some (.ref d), some (.int c)] []
  refine aw_iload_n hX dX0_hasColumn_0 rfl ?_
  refine aw_if_lt hX 22 dX0_hasColumn_1 (by decide) (fun c_1 => ?_) (fun c_1 => ?_)
  · refine aw_iconst hX (0) dX0_hasColumn_22 (by decide) ?_
    exact aw_zret hX rfl (by first | exact Or.inl rfl | exact Or.inr rfl | assumption) rfl rfl rfl dX0_hasColumn_23 (by first | exact prT (by simp only [bI_eq0, Decidable.not_not, Int32.lt_iff_toInt_lt, Int32.le_iff_toInt_le, Int32.reduceToInt] at c_1 ⊢; omega) | exact prF (by simp only [bI_eq0, Decidable.not_not, Int32.lt_iff_toInt_lt, Int32.le_iff_toInt_le, Int32.reduceToInt] at c_1 ⊢; omega))
  · refine aw_iload_n hX dX0_hasColumn_4 rfl ?_
    refine aw_aload_n hX dX0_hasColumn_5 rfl ?_
    refine gt_X0_9 hX dX0_hasColumn_6 (by assumption) (by exact rfl) ?_
    refine aw_icmp_ge hX 22 dX0_hasColumn_9 (by decide) (fun c_9 => ?_) (fun c_9 => ?_)
    · refine aw_iconst hX (0) dX0_hasColumn_22 (by decide) ?_
      exact aw_zret hX rfl (by first | exact Or.inl rfl | exact Or.inr rfl | assumption) rfl rfl rfl dX0_hasColumn_23 (by first | exact prT (by simp only [bI_eq0, Decidable.not_not, Int32.lt_iff_toInt_lt, Int32.le_iff_toInt_le, Int32.reduceToInt] at c_1 c_9 ⊢; omega) | exact prF (by simp only [bI_eq0, Decidable.not_not, Int32.lt_iff_toInt_lt, Int32.le_iff_toInt_le, Int32.reduceToInt] at c_1 c_9 ⊢; omega))
    · refine aw_iload_n hX dX0_hasColumn_12 rfl ?_
      refine aw_bipush hX (40) dX0_hasColumn_13 (by decide) ?_
      refine aw_icmp_ge hX 22 dX0_hasColumn_15 (by decide) (fun c_15 => ?_) (fun c_15 => ?_)
      · refine aw_iconst hX (0) dX0_hasColumn_22 (by decide) ?_
        exact aw_zret hX rfl (by first | exact Or.inl rfl | exact Or.inr rfl | assumption) rfl rfl rfl dX0_hasColumn_23 (by first | exact prT (by simp only [bI_eq0, Decidable.not_not, Int32.lt_iff_toInt_lt, Int32.le_iff_toInt_le, Int32.reduceToInt] at c_1 c_9 c_15 ⊢; omega) | exact prF (by simp only [bI_eq0, Decidable.not_not, Int32.lt_iff_toInt_lt, Int32.le_iff_toInt_le, Int32.reduceToInt] at c_1 c_9 c_15 ⊢; omega))
      · refine aw_iconst hX (1) dX0_hasColumn_18 (by decide) ?_
        refine aw_goto hX 23 dX0_hasColumn_19 (by decide) ?_
        exact aw_zret hX rfl (by first | exact Or.inl rfl | exact Or.inr rfl | assumption) rfl rfl rfl dX0_hasColumn_23 (by first | exact prT (by simp only [bI_eq0, Decidable.not_not, Int32.lt_iff_toInt_lt, Int32.le_iff_toInt_le, Int32.reduceToInt] at c_1 c_9 c_15 ⊢; omega) | exact prF (by simp only [bI_eq0, Decidable.not_not, Int32.lt_iff_toInt_lt, Int32.le_iff_toInt_le, Int32.reduceToInt] at c_1 c_9 c_15 ⊢; omega))
theorem tX0_hasDot (l : Launch) (E : EV) (n : Nat) {h : HP} {d : Nat} {w : Int32} {sh ai st kn fl : IF} (H : HDots h d w sh ai st kn fl) (c r : Int32) : MX0_hasDot l E n h [.ref d, .int c, .int r] (PR (.int (bI ((0 ≤ c ∧ c < w ∧ c < 40) ∧ 0 ≤ r ∧ r < 7))) h) := by
  have e := H
  obtain ⟨e0, e1, e2, e3, e4, e5⟩ := H
  refine AM.intro mf_X0_hasDot (by simp [Value.category]) (Nat.le_of_ble_eq_true rfl) (fun X hl hE hnm hX => ?_)
  subst hl
  subst hE
  show AW X _ _ 0 0 0 [some (.ref d), some (.int c), some (.int r)] []
  refine aw_aload_n hX dX0_hasDot_0 rfl ?_
  refine aw_iload_n hX dX0_hasDot_1 rfl ?_
  refine aw_callVp hX RX0 rfl (tX0_hasColumn _ _ _ e _) rfl mf_X0_hasColumn mi_X0_hasColumn ms_X0_hasColumn kl_X0_41 (by assumption) rfl rfl (by decide) (Nat.le_of_ble_eq_true rfl) dX0_hasDot_2 (by decide) ?_
  refine aw_if_eq hX 22 dX0_hasDot_5 (by decide) (fun c_5 => ?_) (fun c_5 => ?_)
  · refine aw_iconst hX (0) dX0_hasDot_22 (by decide) ?_
    exact aw_zret hX rfl (by first | exact Or.inl rfl | exact Or.inr rfl | assumption) rfl rfl rfl dX0_hasDot_23 (by first | exact prT (by simp only [bI_eq0, Decidable.not_not, Int32.lt_iff_toInt_lt, Int32.le_iff_toInt_le, Int32.reduceToInt] at c_5 ⊢; omega) | exact prF (by simp only [bI_eq0, Decidable.not_not, Int32.lt_iff_toInt_lt, Int32.le_iff_toInt_le, Int32.reduceToInt] at c_5 ⊢; omega))
  · refine aw_iload_n hX dX0_hasDot_8 rfl ?_
    refine aw_if_lt hX 22 dX0_hasDot_9 (by decide) (fun c_9 => ?_) (fun c_9 => ?_)
    · refine aw_iconst hX (0) dX0_hasDot_22 (by decide) ?_
      exact aw_zret hX rfl (by first | exact Or.inl rfl | exact Or.inr rfl | assumption) rfl rfl rfl dX0_hasDot_23 (by first | exact prT (by simp only [bI_eq0, Decidable.not_not, Int32.lt_iff_toInt_lt, Int32.le_iff_toInt_le, Int32.reduceToInt] at c_5 c_9 ⊢; omega) | exact prF (by simp only [bI_eq0, Decidable.not_not, Int32.lt_iff_toInt_lt, Int32.le_iff_toInt_le, Int32.reduceToInt] at c_5 c_9 ⊢; omega))
    · refine aw_iload_n hX dX0_hasDot_12 rfl ?_
      refine aw_bipush hX (7) dX0_hasDot_13 (by decide) ?_
      refine aw_icmp_ge hX 22 dX0_hasDot_15 (by decide) (fun c_15 => ?_) (fun c_15 => ?_)
      · refine aw_iconst hX (0) dX0_hasDot_22 (by decide) ?_
        exact aw_zret hX rfl (by first | exact Or.inl rfl | exact Or.inr rfl | assumption) rfl rfl rfl dX0_hasDot_23 (by first | exact prT (by simp only [bI_eq0, Decidable.not_not, Int32.lt_iff_toInt_lt, Int32.le_iff_toInt_le, Int32.reduceToInt] at c_5 c_9 c_15 ⊢; omega) | exact prF (by simp only [bI_eq0, Decidable.not_not, Int32.lt_iff_toInt_lt, Int32.le_iff_toInt_le, Int32.reduceToInt] at c_5 c_9 c_15 ⊢; omega))
      · refine aw_iconst hX (1) dX0_hasDot_18 (by decide) ?_
        refine aw_goto hX 23 dX0_hasDot_19 (by decide) ?_
        exact aw_zret hX rfl (by first | exact Or.inl rfl | exact Or.inr rfl | assumption) rfl rfl rfl dX0_hasDot_23 (by first | exact prT (by simp only [bI_eq0, Decidable.not_not, Int32.lt_iff_toInt_lt, Int32.le_iff_toInt_le, Int32.reduceToInt] at c_5 c_9 c_15 ⊢; omega) | exact prF (by simp only [bI_eq0, Decidable.not_not, Int32.lt_iff_toInt_lt, Int32.le_iff_toInt_le, Int32.reduceToInt] at c_5 c_9 c_15 ⊢; omega))
end
section
/-! members of the JDK, and the copy of rows -/
theorem hset_hset (h : HP) (a : Nat) (c c' : AC) : hset (hset h a c) a c' = hset h a c' := by
  funext q
  unfold hset
  by_cases e : q = a <;> simp [e]
theorem hset_self {h : HP} {a : Nat} {c : AC} (e : h a = some c) : hset h a c = h := by
  funext q
  unfold hset
  by_cases e2 : q = a
  · rw [if_pos e2, e2, e]
  · rw [if_neg e2]
theorem hset_comm (h : HP) {a b : Nat} (c c' : AC) (e : a ≠ b) : hset (hset h a c) b c' = hset (hset h b c') a c := by
  funext q
  unfold hset
  by_cases e2 : q = a
  · subst e2; simp [e]
  · simp [e2]
theorem arrV_ext {c : ClassId} {N : Nat} {f g : Nat → Value} (e : ∀ j, j < N → f j = g j) : arrV c N f = arrV c N g := by
  unfold arrV
  congr 1
  refine Array.ext (by simp) (fun i h1 h2 => ?_)
  simp only [Array.getElem_ofFn]
  exact e i (by simpa using h1)
/-- an array's content may be told in other words, as far as it goes -/
theorem AW.ext {X : CX} {n : Nat} {h : HP} {k sl pc a N : Nat} {f : IF} (g : IF) {L : List (Option Value)} {st : List Value} (hh : h a = some (cI N f)) (e : ∀ j, j < N → f j = g j) (kk : AW X n (hset h a (cI N g)) k sl pc L st) : AW X n h k sl pc L st := by
  obtain ⟨p, l, e0, R, s, m, args, below, meth, c, Q, E, nL⟩ := X
  intro H locs ls hW hS hz hl
  refine kk H locs ls ⟨hW.1, hW.2.1, fun p0 c0 hp => ?_, fun p0 h1 h2 => ?_⟩ hS hz hl
  · by_cases e1 : p0 = a
    · subst e1
      rw [hset_eq] at hp
      cases hp
      obtain ⟨h1, h2, h3⟩ := hW.2.2.1 _ _ hh
      refine ⟨h1, h2, ?_⟩
      show H[ad E p0]? = some (vp_cell (eC E 0) (N, .inl g))
      have h4 : H[ad E p0]? = some (vp_cell (eC E 0) (N, .inl f)) := h3
      rw [h4, vp_cell_i, vp_cell_i]
      exact congrArg some (arrV_ext (fun j hj => by rw [e j hj]))
    · rw [hset_ne h _ e1] at hp
      exact hW.2.2.1 _ _ hp
  · by_cases e1 : p0 = a
    · rw [e1, hset_eq]; rfl
    · rw [hset_ne h _ e1]; exact hW.2.2.2 p0 h1 h2
def ushF (a b : Int32) : Int32 := (a.toUInt32 >>> (b.toUInt32 &&& Int32.toUInt32 31)).toInt32
def bc1 (x : Int32) : Int32 := x - (ushF x 1 &&& 1431655765)
def bc2 (x : Int32) : Int32 := (x &&& 858993459) + (ushF x 2 &&& 858993459)
def bc3 (x : Int32) : Int32 := (x + ushF x 4) &&& 252645135
def bc4 (x : Int32) : Int32 := x + ushF x 8
def bc5 (x : Int32) : Int32 := x + ushF x 16
/-- Integer.bitCount -/
def bcF (x : Int32) : Int32 := bc5 (bc4 (bc3 (bc2 (bc1 x)))) &&& 63
theorem tJ6_bitCount (l : Launch) (E : EV) (n : Nat) (h : HP) (x : Int32) : MJ6_bitCount_0f7a4 l E n h [.int x] (PR (.int (bcF x)) h) := by
  refine AM.intro mf_J6_bitCount_0f7a4 (by simp [Value.category]) (Nat.le_of_ble_eq_true rfl) (fun X hl hE hnm hX => ?_)
  subst hl
  subst hE
  show AW X _ _ 0 0 0 [some (.int x)] []
  refine aw_iload_n hX dJ6_bitCount_0f7a4_0 rfl ?_
  refine aw_iload_n hX dJ6_bitCount_0f7a4_1 rfl ?_
  refine aw_iconst hX (1) dJ6_bitCount_0f7a4_2 (by decide) ?_
  refine aw_iushr hX dJ6_bitCount_0f7a4_3 ?_
  refine aw_ldcw hX kk_J6_265 dJ6_bitCount_0f7a4_4 ?_
  refine aw_iand hX dJ6_bitCount_0f7a4_7 ?_
  refine aw_isub hX dJ6_bitCount_0f7a4_8 ?_
  refine aw_istore_n hX dJ6_bitCount_0f7a4_9 (Nat.le_of_ble_eq_true rfl) ?_
  show AW X _ _ 0 0 10 [some (.int (bc1 x))] []
  refine aw_iload_n hX dJ6_bitCount_0f7a4_10 rfl ?_
  refine aw_ldcw hX kk_J6_266 dJ6_bitCount_0f7a4_11 ?_
  refine aw_iand hX dJ6_bitCount_0f7a4_14 ?_
  refine aw_iload_n hX dJ6_bitCount_0f7a4_15 rfl ?_
  refine aw_iconst hX (2) dJ6_bitCount_0f7a4_16 (by decide) ?_
  refine aw_iushr hX dJ6_bitCount_0f7a4_17 ?_
  refine aw_ldcw hX kk_J6_266 dJ6_bitCount_0f7a4_18 ?_
  refine aw_iand hX dJ6_bitCount_0f7a4_21 ?_
  refine aw_iadd hX dJ6_bitCount_0f7a4_22 ?_
  refine aw_istore_n hX dJ6_bitCount_0f7a4_23 (Nat.le_of_ble_eq_true rfl) ?_
  show AW X _ _ 0 0 24 [some (.int (bc2 (bc1 x)))] []
  refine aw_iload_n hX dJ6_bitCount_0f7a4_24 rfl ?_
  refine aw_iload_n hX dJ6_bitCount_0f7a4_25 rfl ?_
  refine aw_iconst hX (4) dJ6_bitCount_0f7a4_26 (by decide) ?_
  refine aw_iushr hX dJ6_bitCount_0f7a4_27 ?_
  refine aw_iadd hX dJ6_bitCount_0f7a4_28 ?_
  refine aw_ldcw hX kk_J6_267 dJ6_bitCount_0f7a4_29 ?_
  refine aw_iand hX dJ6_bitCount_0f7a4_32 ?_
  refine aw_istore_n hX dJ6_bitCount_0f7a4_33 (Nat.le_of_ble_eq_true rfl) ?_
  show AW X _ _ 0 0 34 [some (.int (bc3 (bc2 (bc1 x))))] []
  refine aw_iload_n hX dJ6_bitCount_0f7a4_34 rfl ?_
  refine aw_iload_n hX dJ6_bitCount_0f7a4_35 rfl ?_
  refine aw_bipush hX (8) dJ6_bitCount_0f7a4_36 (by decide) ?_
  refine aw_iushr hX dJ6_bitCount_0f7a4_38 ?_
  refine aw_iadd hX dJ6_bitCount_0f7a4_39 ?_
  refine aw_istore_n hX dJ6_bitCount_0f7a4_40 (Nat.le_of_ble_eq_true rfl) ?_
  show AW X _ _ 0 0 41 [some (.int (bc4 (bc3 (bc2 (bc1 x)))))] []
  refine aw_iload_n hX dJ6_bitCount_0f7a4_41 rfl ?_
  refine aw_iload_n hX dJ6_bitCount_0f7a4_42 rfl ?_
  refine aw_bipush hX (16) dJ6_bitCount_0f7a4_43 (by decide) ?_
  refine aw_iushr hX dJ6_bitCount_0f7a4_45 ?_
  refine aw_iadd hX dJ6_bitCount_0f7a4_46 ?_
  refine aw_istore_n hX dJ6_bitCount_0f7a4_47 (Nat.le_of_ble_eq_true rfl) ?_
  show AW X _ _ 0 0 48 [some (.int (bc5 (bc4 (bc3 (bc2 (bc1 x))))))] []
  refine aw_iload_n hX dJ6_bitCount_0f7a4_48 rfl ?_
  refine aw_bipush hX (63) dJ6_bitCount_0f7a4_49 (by decide) ?_
  refine aw_iand hX dJ6_bitCount_0f7a4_51 ?_
  exact aw_iret hX rfl rfl rfl rfl dJ6_bitCount_0f7a4_52 (by exact ⟨rfl, rfl⟩)
theorem tJ9_max (l : Launch) (E : EV) (n : Nat) (h : HP) (x y : Int32) : MJ9_max_7cf53 l E n h [.int x, .int y] (PR (.int (if x < y then y else x)) h) := by
  refine AM.intro mf_J9_max_7cf53 (by simp [Value.category]) (Nat.le_of_ble_eq_true rfl) (fun X hl hE hnm hX => ?_)
  subst hl
  subst hE
  show AW X _ _ 0 0 0 [some (.int x), some (.int y)] []
  refine aw_iload_n hX dJ9_max_7cf53_0 rfl ?_
  refine aw_iload_n hX dJ9_max_7cf53_1 rfl ?_
  refine aw_icmp_lt hX 9 dJ9_max_7cf53_2 (by decide) (fun c_2 => ?_) (fun c_2 => ?_)
  · refine aw_iload_n hX dJ9_max_7cf53_9 rfl ?_
    exact aw_iret hX rfl rfl rfl rfl dJ9_max_7cf53_10 (by exact ⟨by simp [c_2], rfl⟩)
  · refine aw_iload_n hX dJ9_max_7cf53_5 rfl ?_
    refine aw_goto hX 10 dJ9_max_7cf53_6 (by decide) ?_
    exact aw_iret hX rfl rfl rfl rfl dJ9_max_7cf53_10 (by exact ⟨by simp [c_2], rfl⟩)
theorem tJ9_min (l : Launch) (E : EV) (n : Nat) (h : HP) (x y : Int32) : MJ9_min_7cf53 l E n h [.int x, .int y] (PR (.int (if y < x then y else x)) h) := by
  refine AM.intro mf_J9_min_7cf53 (by simp [Value.category]) (Nat.le_of_ble_eq_true rfl) (fun X hl hE hnm hX => ?_)
  subst hl
  subst hE
  show AW X _ _ 0 0 0 [some (.int x), some (.int y)] []
  refine aw_iload_n hX dJ9_min_7cf53_0 rfl ?_
  refine aw_iload_n hX dJ9_min_7cf53_1 rfl ?_
  refine aw_icmp_gt hX 9 dJ9_min_7cf53_2 (by decide) (fun c_2 => ?_) (fun c_2 => ?_)
  · refine aw_iload_n hX dJ9_min_7cf53_9 rfl ?_
    exact aw_iret hX rfl rfl rfl rfl dJ9_min_7cf53_10 (by exact ⟨by simp [c_2], rfl⟩)
  · refine aw_iload_n hX dJ9_min_7cf53_5 rfl ?_
    refine aw_goto hX 10 dJ9_min_7cf53_6 (by decide) ?_
    exact aw_iret hX rfl rfl rfl rfl dJ9_min_7cf53_10 (by exact ⟨by simp [c_2], rfl⟩)
theorem xor_pos {a b : Nat} (ha : a < 2 ^ 31) (hb : b < 2 ^ 31) : 0 ≤ nI a ^^^ nI b := by
  have e : nI a ^^^ nI b = nI (a ^^^ b) := by
    apply Int32.toBitVec_inj.mp
    rw [Int32.toBitVec_xor]
    show BitVec.ofNat 32 a ^^^ BitVec.ofNat 32 b = BitVec.ofNat 32 (a ^^^ b)
    apply BitVec.eq_of_toNat_eq
    simp [BitVec.toNat_xor, BitVec.toNat_ofNat]
  rw [e]
  exact nI_pos' (Nat.xor_lt_two_pow ha hb)
theorem tJ9_floorMod (l : Launch) (E : EV) (n : Nat) (h : HP) {a b : Nat} (ha : a < 2 ^ 31) (hb : b < 2 ^ 31) (h0 : 0 < b) : MJ9_floorMod_7cf53 l E n h [.int (nI a), .int (nI b)] (PR (.int (nI (a % b))) h) := by
  refine AM.intro mf_J9_floorMod_7cf53 (by simp [Value.category]) (Nat.le_of_ble_eq_true rfl) (fun X hl hE hnm hX => ?_)
  subst hl
  subst hE
  show AW X _ _ 0 0 0 [some (.int (nI a)), some (.int (nI b)), none] []
  refine aw_iload_n hX dJ9_floorMod_7cf53_0 rfl ?_
  refine aw_iload_n hX dJ9_floorMod_7cf53_1 rfl ?_
  refine aw_irem hX dJ9_floorMod_7cf53_2 (nI_ne0 h0 hb) ?_
  rw [pk_rem ha h0 hb]
  refine aw_istore_n hX dJ9_floorMod_7cf53_3 (Nat.le_of_ble_eq_true rfl) ?_
  refine aw_iload_n hX dJ9_floorMod_7cf53_4 rfl ?_
  refine aw_iload_n hX dJ9_floorMod_7cf53_5 rfl ?_
  refine aw_ixor hX dJ9_floorMod_7cf53_6 ?_
  refine aw_if_ge hX 18 dJ9_floorMod_7cf53_7 (by decide) (fun c_7 => ?_) (fun c_7 => ?_)
  · refine aw_iload_n hX dJ9_floorMod_7cf53_18 rfl ?_
    exact aw_iret hX rfl rfl rfl rfl dJ9_floorMod_7cf53_19 (by exact ⟨rfl, rfl⟩)
  · exact absurd (xor_pos ha hb) c_7
theorem upd_lo {g : IF} {j : Nat} {x : Int32} (h : ∀ i, i < j → g i = x) : ∀ i, i < j + 1 → upd g j x i = x := fun i hi => by
  by_cases e : i = j
  · subst e
    exact pk_us
  · rw [pk_un e]
    exact h i (by omega)
/-- Arrays.fill -/
theorem tJ7_fill (l : Launch) (E : EV) (n : Nat) {h : HP} {a N : Nat} {f : IF} (hh : h a = some (cI N f)) (hN : N < 2 ^ 31) (x : Int32) : MJ7_fill_53178 l E n h [.ref a, .int x] (fun v h' => v = none ∧ h' = hset h a (cI N (fun _ => x))) := by
  refine AM.intro mf_J7_fill_53178 (by simp [Value.category]) (Nat.le_of_ble_eq_true rfl) (fun X hl hE hnm hX => ?_)
  subst hl
  subst hE
  show AW X _ _ 0 0 0 [some (.ref a), some (.int x), none, none] []
  have loop : ∀ (m j : Nat) (g : IF), j ≤ N → N - j < m → (∀ i, i < j → g i = x) → AW X n (hset h a (cI N g)) 0 0 5 [some (.ref a), some (.int x), some (.int (nI j)), some (.int (nI N))] [] := by
    intro m
    induction m with
    | zero => intro j g h1 h2; omega
    | succ m ih =>
      intro j g h1 h2 h3
      have e0 := hset_eq h a (cI N g)
      refine aw_iload_n hX dJ7_fill_53178_5 rfl ?_
      refine aw_iload_n hX dJ7_fill_53178_6 rfl ?_
      refine aw_icmp_ge hX 20 dJ7_fill_53178_7 (by decide) (fun c_7 => ?_) (fun c_7 => ?_)
      · have hj : j = N := by exact Nat.le_antisymm h1 (Nat.not_lt.mp (fun q => nI_ge q hN c_7))
        subst hj
        refine AW.ext (fun _ => x) e0 (fun i hi => h3 i hi) ?_
        rw [hset_hset]
        exact aw_vret hX rfl rfl rfl rfl dJ7_fill_53178_20 ⟨rfl, rfl⟩
      · have hj : j < N := by exact Nat.lt_of_le_of_ne h1 (fun q => c_7 (by rw [q]; exact nI_le (Nat.le_refl _) hN))
        refine aw_aload_n hX dJ7_fill_53178_10 rfl ?_
        refine aw_iload_n hX dJ7_fill_53178_11 rfl ?_
        refine aw_iload_n hX dJ7_fill_53178_12 rfl ?_
        refine aw_iastN hX j e0 rfl hj hN dJ7_fill_53178_13 ?_
        refine aw_iinc hX (nI (j + 1)) dJ7_fill_53178_14 rfl (nI_1 j) ?_
        refine aw_goto hX 5 dJ7_fill_53178_17 (by decide) ?_
        rw [hset_hset]
        exact ih (j + 1) (upd g j x) hj (by omega) (upd_lo h3)
  refine aw_iconst hX (0) dJ7_fill_53178_0 (by decide) ?_
  refine aw_istore_n hX dJ7_fill_53178_1 (Nat.le_of_ble_eq_true rfl) ?_
  refine aw_aload_n hX dJ7_fill_53178_2 rfl ?_
  refine aw_alen hX _ (by assumption) (by decide) rfl dJ7_fill_53178_3 ?_
  refine aw_istore_n hX dJ7_fill_53178_4 (Nat.le_of_ble_eq_true rfl) ?_
  rw [← hset_self hh]
  exact loop (N + 1) 0 f (Nat.zero_le _) (by omega) (fun i hi => absurd hi (by omega))
theorem tX9_copy (l : Launch) (E : EV) (n : Nat) {h : HP} {a b N : Nat} {f g : IF} (hh : h a = some (cI N f)) (hh2 : h b = some (cI N g)) (hN : N < 2 ^ 31) : MX9_copy l E n h [.ref a, .ref b] (fun v h' => v = none ∧ h' = hset h b (cI N f)) := by
  refine AM.intro mf_X9_copy (by simp [Value.category]) (Nat.le_of_ble_eq_true rfl) (fun X hl hE hnm hX => ?_)
  subst hl
  subst hE
  show AW X _ _ 0 0 0 [some (.ref a), some (.ref b)] []
  refine aw_aload_n hX dX9_copy_0 rfl ?_
  refine aw_iconst hX (0) dX9_copy_1 (by decide) ?_
  refine aw_aload_n hX dX9_copy_2 rfl ?_
  refine aw_iconst hX (0) dX9_copy_3 (by decide) ?_
  refine aw_aload_n hX dX9_copy_4 rfl ?_
  refine aw_alen hX _ (by assumption) (by decide) rfl dX9_copy_5 ?_
  refine aw_aload_n hX dX9_copy_6 rfl ?_
  refine aw_alen hX _ (by assumption) (by decide) rfl dX9_copy_7 ?_
  refine aw_callSp hX RX9 rfl (tJ9_min _ _ _ _ (nI N) (nI N)) rfl mf_J9_min_7cf53 mt_J9_min_7cf53 kl_X9_277 rfl (by decide) (Nat.le_of_ble_eq_true rfl) dX9_copy_8 (by decide) ?_
  rw [if_neg (nI_nlt (Nat.le_refl N) hN)]
  refine aw_acopy hX RX9 rfl kl_X9_282 m_cpy.1 m_cpy.2.1 m_cpy.2.2 (by assumption) (by assumption) (by decide) (by decide) (nI_pos hN) (by rw [nI_clamp hN]; exact Nat.le_of_eq (Nat.zero_add N)) (by rw [nI_clamp hN]; exact Nat.le_of_eq (Nat.zero_add N)) (by decide) (Nat.le_of_ble_eq_true rfl) dX9_copy_11 ?_
  rw [nI_clamp hN]
  refine AW.ext f (hset_eq h b _) (fun j hj => ?_) ?_
  · exact (pk_cpy_in (Nat.zero_le _) (by omega)).trans (by simp)
  rw [hset_hset]
  exact aw_vret hX rfl rfl rfl rfl dX9_copy_14 (by exact ⟨rfl, rfl⟩)
end
