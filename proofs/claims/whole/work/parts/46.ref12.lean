/-! the reference: a dot is tried -/
section REF12
variable {h : HP} {y : Nat} {s : IF} {v : PV} {W P o ps ty sp om : Nat}
theorem HN.put (H : HN h y s ps ty sp om) (s' : IF) : HN (hset h (y + 1) (cI 729 s')) y s' ps ty sp om := ⟨(hset_ne _ _ (by omega)).trans H.1, hset_eq _ _ _⟩
theorem RI.fld (H : RI s v W P o) (x : Int32) : RI (upd s 5 x) (v.1, (x, v.2.1.2), v.2.2) W P o := ⟨H.1.fld H.2.1.2.2.1 x, H.2.1, H.2.2⟩
theorem RI.trd (H : RI s v W P o) (x : Int32) : RI (upd s 6 x) (v.1, (v.2.1.1, x, v.2.1.2.2), v.2.2) W P o := ⟨H.1.trd H.2.1.2.2.1 x, H.2.1, H.2.2⟩
theorem RI.shown (H : RI s v W P o) {j : Nat} (hj : j < W) {x : Int32} (hx : B7 x) : RI (upd s (9 + j) x) ((v.1.1, upd v.1.2.1 j x, v.1.2.2), v.2) W P o := by
  have hj40 : j < 40 := Nat.lt_of_lt_of_le hj H.1.1.2.2.2
  exact H.dots (H.1.shown H.2.1.2.2.1 hj40 x) (fun c hc => by obtain ⟨q1, q2, q3, q4⟩ := H.2.1.2.2.2.2.2 c hc; exact ⟨B7_upd (fun c hc => (H.2.1.2.2.2.2.2 c hc).1) hx c hc, q2, q3, q4⟩) (fun c h1 h2 => by obtain ⟨q1, q2, q3, q4⟩ := H.2.2.2 c h1 h2; exact ⟨(pk_un (by omega)).trans q1, q2, q3, q4⟩)
theorem i_or_0 (x : Int32) : x ||| 0 = x := by
  apply Int32.toBitVec_inj.mp
  rw [Int32.toBitVec_or]
  show x.toBitVec ||| 0#32 = x.toBitVec
  exact BitVec.or_zero
theorem upd_id {f : IF} {j : Nat} : upd f j (f j) = f := by
  funext k
  by_cases e : k = j
  · subst e
    exact pk_us
  · exact pk_un e
theorem tX10_flipsAt (l : Launch) (E : EV) (n : Nat) (H : HN h y s ps ty sp om) (R : RI s v W P o) {j i : Nat} (hj : j < W) (hi : i < 7) : MX10_flipsAt l E n h [.ref y, .int (nI j), .int (nI i)] (fun r h' => r = none ∧ ∃ s', h' = hset h (y + 1) (cI 729 s') ∧ RI s' (tryF v j i) W P o) := by
  have hj40 : j < 40 := Nat.lt_of_lt_of_le hj R.1.1.2.2.2
  obtain ⟨e0, e1⟩ := id H
  obtain ⟨z1, z2, z3, z4⟩ := R.1.2.2.2.2.1 j hj40
  obtain ⟨b1, b2, b3, b4⟩ := R.2.1.2.2.2.2.2 j hj40
  have z5 := R.1.2.2.2.2.2.1 j i hj40 hi
  have z6 := R.1.2.2.2.1.1
  have z7 := R.1.2.2.2.1.2.1
  have z8 := R.1.2.1 2 (by decide)
  have hm := B7_mk i hi
  have g := H
  by_cases hs : v.1.2.2.2.1 j &&& mk i = 0
  · rw [tryF, if_pos hs]
    refine AM.intro mf_X10_flipsAt (by simp [Value.category]) (Nat.le_of_ble_eq_true rfl) (fun X hl hE hnm hX => ?_)
    subst hl
    subst hE
    show AW X _ _ 0 0 0 [some (.ref y), some (.int (nI j)), some (.int (nI i)), none] []
    refine aw_sipush hX (169) dX10_flipsAt_0 (by decide) ?_
    refine aw_bipush hX (7) dX10_flipsAt_3 (by decide) ?_
    refine aw_iload_n hX dX10_flipsAt_5 rfl ?_
    refine aw_imul hX dX10_flipsAt_6 ?_
    refine aw_iadd hX dX10_flipsAt_7 ?_
    refine aw_iload_n hX dX10_flipsAt_8 rfl ?_
    refine aw_iadd hX dX10_flipsAt_9 ?_
    rw [ix_f j i]
    refine aw_istore_n hX dX10_flipsAt_10 (Nat.le_of_ble_eq_true rfl) ?_
    refine aw_aload_n hX dX10_flipsAt_11 rfl ?_
    refine gt_X10_7 hX dX10_flipsAt_12 (by assumption) (by exact rfl) ?_
    refine aw_bipush hX (89) dX10_flipsAt_15 (by decide) ?_
    refine aw_iload_n hX dX10_flipsAt_17 rfl ?_
    refine aw_iadd hX dX10_flipsAt_18 ?_
    refine aw_ialdN hX (89 + j) (by assumption) (nI_add 89 j) (by omega) (by first | decide | assumption) dX10_flipsAt_19 ?_
    refine aw_iload_n hX dX10_flipsAt_20 rfl ?_
    refine aw_ishr hX dX10_flipsAt_21 ?_
    refine aw_iconst hX (1) dX10_flipsAt_22 (by decide) ?_
    refine aw_iand hX dX10_flipsAt_23 ?_
    rw [z3, b3.bit hi]
    refine aw_iconst hX (1) dX10_flipsAt_24 (by decide) ?_
    refine aw_icmp_ne hX 56 dX10_flipsAt_25 (by decide) (fun c_25 => ?_) (fun c_25 => ?_)
    · refine aw_aload_n hX dX10_flipsAt_56 rfl ?_
      refine gt_X10_7 hX dX10_flipsAt_57 (by assumption) (by exact rfl) ?_
      refine aw_bipush hX (9) dX10_flipsAt_60 (by decide) ?_
      refine aw_iload_n hX dX10_flipsAt_62 rfl ?_
      refine aw_iadd hX dX10_flipsAt_63 ?_
      refine aw_dup2 hX dX10_flipsAt_64 rfl rfl ?_
      refine aw_ialdN hX (9 + j) (by assumption) (nI_add 9 j) (by omega) (by first | decide | assumption) dX10_flipsAt_65 ?_
      refine aw_iconst hX (1) dX10_flipsAt_66 (by decide) ?_
      refine aw_iload_n hX dX10_flipsAt_67 rfl ?_
      refine aw_ishl hX dX10_flipsAt_68 ?_
      refine aw_ixor hX dX10_flipsAt_69 ?_
      refine aw_iastN hX (9 + j) (by assumption) (nI_add 9 j) (by omega) (by first | decide | assumption) dX10_flipsAt_70 ?_
      rw [z1]
      have g := g.put (upd s (9 + j) (v.1.2.1 j ^^^ mk i))
      obtain ⟨e0, e1⟩ := id g
      refine aw_aload_n hX dX10_flipsAt_71 rfl ?_
      refine gt_X10_7 hX dX10_flipsAt_72 (by assumption) (by exact rfl) ?_
      refine aw_iload_n hX dX10_flipsAt_75 rfl ?_
      refine aw_dup2 hX dX10_flipsAt_76 rfl rfl ?_
      refine aw_ialdN hX (169 + 7 * j + i) (by assumption) rfl (by omega) (by first | decide | assumption) dX10_flipsAt_77 ?_
      rw [show upd s (9 + j) (v.1.2.1 j ^^^ mk i) (169 + 7 * j + i) = v.1.2.2.2.2.2 (j * 7 + i) from (pk_un (by omega)).trans z5]
      refine aw_iconst hX (1) dX10_flipsAt_78 (by decide) ?_
      refine aw_iadd hX dX10_flipsAt_79 ?_
      refine aw_iastN hX (169 + 7 * j + i) (by assumption) rfl (by omega) (by first | decide | assumption) dX10_flipsAt_80 ?_
      have g := g.put (upd (upd s (9 + j) (v.1.2.1 j ^^^ mk i)) (169 + 7 * j + i) (v.1.2.2.2.2.2 (j * 7 + i) + 1))
      obtain ⟨e0, e1⟩ := id g
      refine aw_aload_n hX dX10_flipsAt_81 rfl ?_
      refine gt_X10_7 hX dX10_flipsAt_82 (by assumption) (by exact rfl) ?_
      refine aw_iconst hX (5) dX10_flipsAt_85 (by decide) ?_
      refine aw_dup2 hX dX10_flipsAt_86 rfl rfl ?_
      refine aw_ialdN hX (5) (by assumption) rfl (by decide) (by first | decide | assumption) dX10_flipsAt_87 ?_
      rw [show (upd (upd s (9 + j) (v.1.2.1 j ^^^ mk i)) (169 + 7 * j + i) (v.1.2.2.2.2.2 (j * 7 + i) + 1)) 5 = v.2.1.1 from (pk_un (by omega)).trans ((pk_un (by omega)).trans z6)]
      refine aw_iconst hX (1) dX10_flipsAt_88 (by decide) ?_
      refine aw_iadd hX dX10_flipsAt_89 ?_
      refine aw_iastN hX (5) (by assumption) rfl (by decide) (by first | decide | assumption) dX10_flipsAt_90 ?_
      have g := g.put (upd (upd (upd s (9 + j) (v.1.2.1 j ^^^ mk i)) (169 + 7 * j + i) (v.1.2.2.2.2.2 (j * 7 + i) + 1)) 5 (v.2.1.1 + 1))
      obtain ⟨e0, e1⟩ := id g
      have R := ((R.shown hj (b1.xor hm)).flp hj40 hi (v.1.2.2.2.2.2 (j * 7 + i) + 1)).fld (v.2.1.1 + 1)
      refine aw_aload_n hX dX10_flipsAt_91 rfl ?_
      refine gt_X10_7 hX dX10_flipsAt_92 (by assumption) (by exact rfl) ?_
      refine aw_bipush hX (89) dX10_flipsAt_95 (by decide) ?_
      refine aw_iload_n hX dX10_flipsAt_97 rfl ?_
      refine aw_iadd hX dX10_flipsAt_98 ?_
      refine aw_dup2 hX dX10_flipsAt_99 rfl rfl ?_
      refine aw_ialdN hX (89 + j) (by assumption) (nI_add 89 j) (by omega) (by first | decide | assumption) dX10_flipsAt_100 ?_
      rw [show (upd (upd (upd s (9 + j) (v.1.2.1 j ^^^ mk i)) (169 + 7 * j + i) (v.1.2.2.2.2.2 (j * 7 + i) + 1)) 5 (v.2.1.1 + 1)) (89 + j) = v.1.2.2.2.1 j from (pk_un (by omega)).trans ((pk_un (by omega)).trans ((pk_un (by omega)).trans z3))]
      refine aw_aload_n hX dX10_flipsAt_101 rfl ?_
      refine gt_X10_7 hX dX10_flipsAt_102 (by assumption) (by exact rfl) ?_
      refine aw_iload_n hX dX10_flipsAt_105 rfl ?_
      refine aw_ialdN hX (169 + 7 * j + i) (by assumption) rfl (by omega) (by first | decide | assumption) dX10_flipsAt_106 ?_
      rw [show (upd (upd (upd s (9 + j) (v.1.2.1 j ^^^ mk i)) (169 + 7 * j + i) (v.1.2.2.2.2.2 (j * 7 + i) + 1)) 5 (v.2.1.1 + 1)) (169 + 7 * j + i) = v.1.2.2.2.2.2 (j * 7 + i) + 1 from (pk_un (by omega)).trans pk_us]
      refine aw_aload_n hX dX10_flipsAt_107 rfl ?_
      refine gt_X10_7 hX dX10_flipsAt_108 (by assumption) (by exact rfl) ?_
      refine aw_iconst hX (3) dX10_flipsAt_111 (by decide) ?_
      refine aw_ialdN hX (3) (by assumption) rfl (by decide) (by first | decide | assumption) dX10_flipsAt_112 ?_
      rw [show (upd (upd (upd s (9 + j) (v.1.2.1 j ^^^ mk i)) (169 + 7 * j + i) (v.1.2.2.2.2.2 (j * 7 + i) + 1)) 5 (v.2.1.1 + 1)) 3 = v.2.2.2 2 from (pk_un (by omega)).trans ((pk_un (by omega)).trans ((pk_un (by omega)).trans z8))]
      refine aw_icmp_lt hX 122 dX10_flipsAt_113 (by decide) (fun c_113 => ?_) (fun c_113 => ?_)
      · rw [if_pos c_113] at hX
        have R := R.stuck (x := v.1.2.2.2.1 j) hj b3
        rw [show upd (v.1.2.2.2.1) j (v.1.2.2.2.1 j) = v.1.2.2.2.1 from upd_id] at R
        rw [← i_or_0 (v.1.2.2.2.1 j)] at R
        refine aw_iconst hX (0) dX10_flipsAt_122 (by decide) ?_
        refine aw_ior hX dX10_flipsAt_123 ?_
        refine aw_iastN hX (89 + j) (by assumption) (nI_add 89 j) (by omega) (by first | decide | assumption) dX10_flipsAt_124 ?_
        exact aw_vret hX rfl rfl rfl rfl dX10_flipsAt_125 (by exact ⟨rfl, _, (by first | (simp only [hset_hset]; done) | (simp only [hset_hset]; rfl)), R⟩)
      · rw [if_neg c_113] at hX
        have R := R.stuck hj (b3.or hm)
        refine aw_iconst hX (1) dX10_flipsAt_116 (by decide) ?_
        refine aw_iload_n hX dX10_flipsAt_117 rfl ?_
        refine aw_ishl hX dX10_flipsAt_118 ?_
        refine aw_goto hX 123 dX10_flipsAt_119 (by decide) ?_
        refine aw_ior hX dX10_flipsAt_123 ?_
        refine aw_iastN hX (89 + j) (by assumption) (nI_add 89 j) (by omega) (by first | decide | assumption) dX10_flipsAt_124 ?_
        exact aw_vret hX rfl rfl rfl rfl dX10_flipsAt_125 (by exact ⟨rfl, _, (by first | (simp only [hset_hset]; done) | (simp only [hset_hset]; rfl)), R⟩)
    · exact absurd hs (bI_1.mp c_25)
  · rw [tryF, if_neg hs]
    refine AM.intro mf_X10_flipsAt (by simp [Value.category]) (Nat.le_of_ble_eq_true rfl) (fun X hl hE hnm hX => ?_)
    subst hl
    subst hE
    show AW X _ _ 0 0 0 [some (.ref y), some (.int (nI j)), some (.int (nI i)), none] []
    refine aw_sipush hX (169) dX10_flipsAt_0 (by decide) ?_
    refine aw_bipush hX (7) dX10_flipsAt_3 (by decide) ?_
    refine aw_iload_n hX dX10_flipsAt_5 rfl ?_
    refine aw_imul hX dX10_flipsAt_6 ?_
    refine aw_iadd hX dX10_flipsAt_7 ?_
    refine aw_iload_n hX dX10_flipsAt_8 rfl ?_
    refine aw_iadd hX dX10_flipsAt_9 ?_
    rw [ix_f j i]
    refine aw_istore_n hX dX10_flipsAt_10 (Nat.le_of_ble_eq_true rfl) ?_
    refine aw_aload_n hX dX10_flipsAt_11 rfl ?_
    refine gt_X10_7 hX dX10_flipsAt_12 (by assumption) (by exact rfl) ?_
    refine aw_bipush hX (89) dX10_flipsAt_15 (by decide) ?_
    refine aw_iload_n hX dX10_flipsAt_17 rfl ?_
    refine aw_iadd hX dX10_flipsAt_18 ?_
    refine aw_ialdN hX (89 + j) (by assumption) (nI_add 89 j) (by omega) (by first | decide | assumption) dX10_flipsAt_19 ?_
    refine aw_iload_n hX dX10_flipsAt_20 rfl ?_
    refine aw_ishr hX dX10_flipsAt_21 ?_
    refine aw_iconst hX (1) dX10_flipsAt_22 (by decide) ?_
    refine aw_iand hX dX10_flipsAt_23 ?_
    rw [z3, b3.bit hi]
    refine aw_iconst hX (1) dX10_flipsAt_24 (by decide) ?_
    refine aw_icmp_ne hX 56 dX10_flipsAt_25 (by decide) (fun c_25 => ?_) (fun c_25 => ?_)
    · exact absurd (bI_1.mpr hs) c_25
    · refine aw_aload_n hX dX10_flipsAt_28 rfl ?_
      refine gt_X10_7 hX dX10_flipsAt_29 (by assumption) (by exact rfl) ?_
      refine aw_sipush hX (129) dX10_flipsAt_32 (by decide) ?_
      refine aw_iload_n hX dX10_flipsAt_35 rfl ?_
      refine aw_iadd hX dX10_flipsAt_36 ?_
      refine aw_dup2 hX dX10_flipsAt_37 rfl rfl ?_
      refine aw_ialdN hX (129 + j) (by assumption) (nI_add 129 j) (by omega) (by first | decide | assumption) dX10_flipsAt_38 ?_
      refine aw_iconst hX (1) dX10_flipsAt_39 (by decide) ?_
      refine aw_iload_n hX dX10_flipsAt_40 rfl ?_
      refine aw_ishl hX dX10_flipsAt_41 ?_
      refine aw_ior hX dX10_flipsAt_42 ?_
      refine aw_iastN hX (129 + j) (by assumption) (nI_add 129 j) (by omega) (by first | decide | assumption) dX10_flipsAt_43 ?_
      rw [z4]
      have g := g.put (upd s (129 + j) (v.1.2.2.2.2.1 j ||| mk i))
      obtain ⟨e0, e1⟩ := id g
      have R := R.known hj (b4.or hm)
      refine aw_aload_n hX dX10_flipsAt_44 rfl ?_
      refine gt_X10_7 hX dX10_flipsAt_45 (by assumption) (by exact rfl) ?_
      refine aw_bipush hX (6) dX10_flipsAt_48 (by decide) ?_
      refine aw_dup2 hX dX10_flipsAt_50 rfl rfl ?_
      refine aw_ialdN hX (6) (by assumption) rfl (by decide) (by first | decide | assumption) dX10_flipsAt_51 ?_
      rw [show upd s (129 + j) (v.1.2.2.2.2.1 j ||| mk i) 6 = v.2.1.2.1 from (pk_un (by omega)).trans z7]
      refine aw_iconst hX (1) dX10_flipsAt_52 (by decide) ?_
      refine aw_iadd hX dX10_flipsAt_53 ?_
      refine aw_iastN hX (6) (by assumption) rfl (by decide) (by first | decide | assumption) dX10_flipsAt_54 ?_
      have R := R.trd (v.2.1.2.1 + 1)
      exact aw_vret hX rfl rfl rfl rfl dX10_flipsAt_55 (by exact ⟨rfl, _, hset_hset _ _ _ _, R⟩)
end REF12
