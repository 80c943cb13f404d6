/-! the reference: changes -/
section REF6
variable {h : HP} {y : Nat} {B : FV} {W P o : Nat} {s : IF} {v : PV}
theorem RI.dots {s' : IF} (H : RI s v W P o) {D : DV} (R : RS s' (D, v.2) W) (hB : BO (D, v.2)) (hZ : ZW (D, v.2) W) : RI s' (D, v.2) W P o := by
  obtain ⟨-, ⟨h1, h2, h3, h4, h5, h6⟩, hS, -⟩ := H
  exact ⟨R, ⟨R.1.2.1, h2, h3, h4, h5, hB⟩, hS, hZ⟩
theorem ZW.stuck (H : ZW v W) {j : Nat} (hj : j < W) (x : Int32) : ZW ((v.1.1, v.1.2.1, v.1.2.2.1, upd v.1.2.2.2.1 j x, v.1.2.2.2.2), v.2) W := fun c h1 h2 => by
  obtain ⟨q1, q2, q3, q4⟩ := H c h1 h2
  exact ⟨q1, q2, (pk_un (by omega)).trans q3, q4⟩
theorem BO.stuck (H : BO v) {j : Nat} {x : Int32} (hx : B7 x) : BO ((v.1.1, v.1.2.1, v.1.2.2.1, upd v.1.2.2.2.1 j x, v.1.2.2.2.2), v.2) := fun c hc => by
  obtain ⟨q1, q2, q3, q4⟩ := H c hc
  exact ⟨q1, q2, B7_upd (fun c hc => (H c hc).2.2.1) hx c hc, q4⟩
theorem ZW.known (H : ZW v W) {j : Nat} (hj : j < W) (x : Int32) : ZW ((v.1.1, v.1.2.1, v.1.2.2.1, v.1.2.2.2.1, upd v.1.2.2.2.2.1 j x, v.1.2.2.2.2.2), v.2) W := fun c h1 h2 => by
  obtain ⟨q1, q2, q3, q4⟩ := H c h1 h2
  exact ⟨q1, q2, q3, (pk_un (by omega)).trans q4⟩
theorem BO.known (H : BO v) {j : Nat} {x : Int32} (hx : B7 x) : BO ((v.1.1, v.1.2.1, v.1.2.2.1, v.1.2.2.2.1, upd v.1.2.2.2.2.1 j x, v.1.2.2.2.2.2), v.2) := fun c hc => by
  obtain ⟨q1, q2, q3, q4⟩ := H c hc
  exact ⟨q1, q2, q3, B7_upd (fun c hc => (H c hc).2.2.2) hx c hc⟩
theorem RI.stuck (H : RI s v W P o) {j : Nat} (hj : j < W) {x : Int32} (hx : B7 x) : RI (upd s (89 + j) x) ((v.1.1, v.1.2.1, v.1.2.2.1, upd v.1.2.2.2.1 j x, v.1.2.2.2.2), v.2) W P o := by
  have hj40 : j < 40 := Nat.lt_of_lt_of_le hj H.1.1.2.2.2
  exact H.dots (H.1.stuck H.2.1.2.2.1 hj40 x) (H.2.1.2.2.2.2.2.stuck hx) (H.2.2.2.stuck hj x)
theorem RI.known (H : RI s v W P o) {j : Nat} (hj : j < W) {x : Int32} (hx : B7 x) : RI (upd s (129 + j) x) ((v.1.1, v.1.2.1, v.1.2.2.1, v.1.2.2.2.1, upd v.1.2.2.2.2.1 j x, v.1.2.2.2.2.2), v.2) W P o := by
  have hj40 : j < 40 := Nat.lt_of_lt_of_le hj H.1.1.2.2.2
  exact H.dots (H.1.known H.2.1.2.2.1 hj40 x) (H.2.1.2.2.2.2.2.known hx) (H.2.2.2.known hj x)
theorem RI.flp (H : RI s v W P o) {j i : Nat} (hj : j < 40) (hi : i < 7) (x : Int32) : RI (upd s (169 + 7 * j + i) x) ((v.1.1, v.1.2.1, v.1.2.2.1, v.1.2.2.2.1, v.1.2.2.2.2.1, upd v.1.2.2.2.2.2 (j * 7 + i) x), v.2) W P o :=
  H.dots (H.1.flp H.2.1.2.2.1 hj hi x) H.2.1.2.2.2.2.2 H.2.2.2
theorem RI.aim {s' : IF} (H : RI s v W P o) {p : IF} (e : ∀ k, k < 49 ∨ 89 ≤ k → s' k = s k) (f : ∀ c, c < 40 → s' (49 + c) = p c) (h7 : ∀ c, B7 (p c)) (hz : ∀ c, W ≤ c → p c = 0) : RI s' (aimD v p, v.2) W P o :=
  H.dots (H.1.aim H.2.1.2.2.1 e f) (fun c hc => by obtain ⟨q1, q2, q3, q4⟩ := H.2.1.2.2.2.2.2 c hc; exact ⟨q1, h7 c, q3, q4⟩) (fun c h1 h2 => by obtain ⟨q1, q2, q3, q4⟩ := H.2.2.2 c h1 h2; exact ⟨q1, hz c h1, q3, q4⟩)
theorem tX10_jam (l : Launch) (E : EV) (n : Nat) (H : HR h y B W P o) (c r : Int32) : MX10_jam l E n h [.ref y, .int c, .int r] (PM y h (fJam B c r)) := by
  have e := H
  obtain ⟨s, H⟩ := H
  have q := H
  obtain ⟨pa, sp, om, g1, g2, g3, g4, g5, g6, g7⟩ := H
  obtain ⟨e0, e1⟩ := id g1
  refine AM.intro mf_X10_jam (by simp [Value.category]) (Nat.le_of_ble_eq_true rfl) (fun X hl hE hnm hX => ?_)
  subst hl
  subst hE
  show AW X _ _ 0 0 0 [some (.ref y), some (.int c), some (.int r)] []
  refine aw_aload_n hX dX10_jam_0 rfl ?_
  refine aw_iload_n hX dX10_jam_1 rfl ?_
  refine aw_iload_n hX dX10_jam_2 rfl ?_
  refine aw_callVp hX RX10 rfl (tX10_isDt _ _ _ g1 g5 c r) rfl mf_X10_isDot mi_X10_isDot ms_X10_isDot kl_X10_148 (by assumption) rfl rfl (by decide) (Nat.le_of_ble_eq_true rfl) dX10_jam_3 (by decide) ?_
  refine aw_if_ne hX 13 dX10_jam_6 (by decide) (fun c_6 => ?_) (fun c_6 => ?_)
  · have hv := Decidable.not_not.mp (fun q => c_6 (bI_eq0.mpr q))
    obtain ⟨j, hj, rfl⟩ := rng 40 (by decide) hv.1.1 hv.1.2.2
    obtain ⟨i, hi, rfl⟩ := rng 7 (by decide) hv.2.1 hv.2.2
    have hjc : (nI j).toNatClampNeg = j := nI_clamp (by omega)
    have hic : (nI i).toNatClampNeg = i := nI_clamp (by omega)
    rw [fJam, if_pos hv, hjc, hic] at hX
    have hjW : j < W := by have q := hv.1.2.1; rw [g5.1.1.2.1, nI_ltI (by omega) (by have := g5.1.1.2.2.2; omega)] at q; exact q
    obtain ⟨z1, z2, z3, z4⟩ := g5.1.2.2.2.2.1 j hj
    have b7 := (g5.2.1.2.2.2.2.2 j hj).2.2.1
    refine aw_aload_n hX dX10_jam_13 rfl ?_
    refine gt_X10_7 hX dX10_jam_14 (by assumption) (by exact rfl) ?_
    refine aw_bipush hX (89) dX10_jam_17 (by decide) ?_
    refine aw_iload_n hX dX10_jam_19 rfl ?_
    refine aw_iadd hX dX10_jam_20 ?_
    refine aw_ialdN hX (89 + j) (by assumption) (nI_add 89 j) (by omega) (by first | decide | assumption) dX10_jam_21 ?_
    refine aw_iload_n hX dX10_jam_22 rfl ?_
    refine aw_ishr hX dX10_jam_23 ?_
    refine aw_iconst hX (1) dX10_jam_24 (by decide) ?_
    refine aw_iand hX dX10_jam_25 ?_
    rw [z3, b7.bit hi]
    refine aw_iconst hX (1) dX10_jam_26 (by decide) ?_
    refine aw_icmp_ne hX 34 dX10_jam_27 (by decide) (fun c_27 => ?_) (fun c_27 => ?_)
    · rw [if_pos (Decidable.not_not.mp (fun q => c_27 (bI_1.mpr q)))] at hX
      refine aw_aload_n hX dX10_jam_34 rfl ?_
      refine aw_callV0 hX RX10 rfl (tX10_hold _ _ _ q) rfl mf_X10_hold mi_X10_hold ms_X10_hold kl_X10_100 (by assumption) rfl rfl (by decide) (Nat.le_of_ble_eq_true rfl) dX10_jam_35 (by decide) (fun v_35 h_35 p_35 => ?_)
      obtain ⟨rfl, q, sm⟩ := p_35
      obtain ⟨ps, ty, sp2, om2, g1⟩ := q.n
      obtain ⟨e0, e1⟩ := id g1
      refine aw_aload_n hX dX10_jam_38 rfl ?_
      refine gt_X10_7 hX dX10_jam_39 (by assumption) (by exact rfl) ?_
      refine aw_bipush hX (89) dX10_jam_42 (by decide) ?_
      refine aw_iload_n hX dX10_jam_44 rfl ?_
      refine aw_iadd hX dX10_jam_45 ?_
      refine aw_dup2 hX dX10_jam_46 rfl rfl ?_
      refine aw_ialdN hX (89 + j) (by assumption) (nI_add 89 j) (by omega) (by first | decide | assumption) dX10_jam_47 ?_
      refine aw_iconst hX (1) dX10_jam_48 (by decide) ?_
      refine aw_iload_n hX dX10_jam_49 rfl ?_
      refine aw_ishl hX dX10_jam_50 ?_
      refine aw_ior hX dX10_jam_51 ?_
      refine aw_iastN hX (89 + j) (by assumption) (nI_add 89 j) (by omega) (by first | decide | assumption) dX10_jam_52 ?_
      rw [z3]
      have q := q.put (upd s (89 + j) (B.1.1.2.2.2.1 j ||| mk i))
      have sm := sm.set (a := y + 1) (c := cI 729 (upd s (89 + j) (B.1.1.2.2.2.1 j ||| mk i))) (by omega) (by omega)
      have g5 := g5.stuck hjW (b7.or (B7_mk i hi))
      obtain ⟨ps, ty, sp2, om2, g1⟩ := q.n
      obtain ⟨e0, e1⟩ := id g1
      have z5 := g5.1.2.2.2.2.2.1 j i hj hi
      refine aw_aload_n hX dX10_jam_53 rfl ?_
      refine aw_aload_n hX dX10_jam_54 rfl ?_
      refine gt_X10_7 hX dX10_jam_55 (by assumption) (by exact rfl) ?_
      refine aw_sipush hX (169) dX10_jam_58 (by decide) ?_
      refine aw_bipush hX (7) dX10_jam_61 (by decide) ?_
      refine aw_iload_n hX dX10_jam_63 rfl ?_
      refine aw_imul hX dX10_jam_64 ?_
      refine aw_iadd hX dX10_jam_65 ?_
      refine aw_iload_n hX dX10_jam_66 rfl ?_
      refine aw_iadd hX dX10_jam_67 ?_
      refine aw_ialdN hX (169 + 7 * j + i) (by assumption) (ix_f j i) (by omega) (by first | decide | assumption) dX10_jam_68 ?_
      rw [z5]
      refine aw_callV0 hX RX10 rfl (tX10_ends _ _ _ q g5 _) rfl mf_X10_ends mi_X10_ends ms_X10_ends kl_X10_103 (by assumption) rfl rfl (by decide) (Nat.le_of_ble_eq_true rfl) dX10_jam_69 (by decide) (fun v_69 h_69 p_69 => ?_)
      obtain ⟨rfl, q, s2⟩ := p_69
      exact aw_iret hX rfl rfl rfl rfl dX10_jam_72 (by exact ⟨rfl, ⟨_, _, _, q⟩, sm.tr s2 (Nat.le_refl _) (Nat.le_refl _)⟩)
    · rw [if_neg (bI_1.mp c_27)] at hX
      refine aw_sipush hX (-1002) dX10_jam_30 (by decide) ?_
      exact aw_iret hX rfl rfl rfl rfl dX10_jam_33 (by exact ⟨rfl, ⟨_, _, _, e⟩, Sm.rf⟩)
  · refine aw_sipush hX (-1001) dX10_jam_9 (by decide) ?_
    exact aw_iret hX rfl rfl rfl rfl dX10_jam_12 (by rw [fJam, if_neg (bI_eq0.mp c_6)]; exact ⟨rfl, ⟨_, _, _, e⟩, Sm.rf⟩)
theorem tX10_mend (l : Launch) (E : EV) (n : Nat) (H : HR h y B W P o) (c r : Int32) : MX10_mend l E n h [.ref y, .int c, .int r] (PM y h (fMend B c r)) := by
  have e := H
  obtain ⟨s, H⟩ := H
  have q := H
  obtain ⟨pa, sp, om, g1, g2, g3, g4, g5, g6, g7⟩ := H
  obtain ⟨e0, e1⟩ := id g1
  refine AM.intro mf_X10_mend (by simp [Value.category]) (Nat.le_of_ble_eq_true rfl) (fun X hl hE hnm hX => ?_)
  subst hl
  subst hE
  show AW X _ _ 0 0 0 [some (.ref y), some (.int c), some (.int r), none] []
  refine aw_aload_n hX dX10_mend_0 rfl ?_
  refine aw_iload_n hX dX10_mend_1 rfl ?_
  refine aw_iload_n hX dX10_mend_2 rfl ?_
  refine aw_callVp hX RX10 rfl (tX10_isDt _ _ _ g1 g5 c r) rfl mf_X10_isDot mi_X10_isDot ms_X10_isDot kl_X10_148 (by assumption) rfl rfl (by decide) (Nat.le_of_ble_eq_true rfl) dX10_mend_3 (by decide) ?_
  refine aw_if_ne hX 13 dX10_mend_6 (by decide) (fun c_6 => ?_) (fun c_6 => ?_)
  · have hv := Decidable.not_not.mp (fun q => c_6 (bI_eq0.mpr q))
    obtain ⟨j, hj, rfl⟩ := rng 40 (by decide) hv.1.1 hv.1.2.2
    obtain ⟨i, hi, rfl⟩ := rng 7 (by decide) hv.2.1 hv.2.2
    have hjc : (nI j).toNatClampNeg = j := nI_clamp (by omega)
    have hic : (nI i).toNatClampNeg = i := nI_clamp (by omega)
    rw [fMend, if_pos hv, hjc, hic] at hX
    have hjW : j < W := by have q := hv.1.2.1; rw [g5.1.1.2.1, nI_ltI (by omega) (by have := g5.1.1.2.2.2; omega)] at q; exact q
    obtain ⟨z1, z2, z3, z4⟩ := g5.1.2.2.2.2.1 j hj
    obtain ⟨-, -, b7, b8⟩ := g5.2.1.2.2.2.2.2 j hj
    refine aw_aload_n hX dX10_mend_13 rfl ?_
    refine aw_callV0 hX RX10 rfl (tX10_hold _ _ _ q) rfl mf_X10_hold mi_X10_hold ms_X10_hold kl_X10_100 (by assumption) rfl rfl (by decide) (Nat.le_of_ble_eq_true rfl) dX10_mend_14 (by decide) (fun v_14 h_14 p_14 => ?_)
    obtain ⟨rfl, q, sm⟩ := p_14
    obtain ⟨ps, ty, sp2, om2, g1⟩ := q.n
    obtain ⟨e0, e1⟩ := id g1
    refine aw_aload_n hX dX10_mend_17 rfl ?_
    refine gt_X10_7 hX dX10_mend_18 (by assumption) (by exact rfl) ?_
    refine aw_bipush hX (89) dX10_mend_21 (by decide) ?_
    refine aw_iload_n hX dX10_mend_23 rfl ?_
    refine aw_iadd hX dX10_mend_24 ?_
    refine aw_ialdN hX (89 + j) (by assumption) (nI_add 89 j) (by omega) (by first | decide | assumption) dX10_mend_25 ?_
    refine aw_iload_n hX dX10_mend_26 rfl ?_
    refine aw_ishr hX dX10_mend_27 ?_
    refine aw_iconst hX (1) dX10_mend_28 (by decide) ?_
    refine aw_iand hX dX10_mend_29 ?_
    rw [z3, b7.bit hi]
    refine aw_istore_n hX dX10_mend_30 (Nat.le_of_ble_eq_true rfl) ?_
    refine aw_aload_n hX dX10_mend_31 rfl ?_
    refine gt_X10_7 hX dX10_mend_32 (by assumption) (by exact rfl) ?_
    refine aw_bipush hX (89) dX10_mend_35 (by decide) ?_
    refine aw_iload_n hX dX10_mend_37 rfl ?_
    refine aw_iadd hX dX10_mend_38 ?_
    refine aw_dup2 hX dX10_mend_39 rfl rfl ?_
    refine aw_ialdN hX (89 + j) (by assumption) (nI_add 89 j) (by omega) (by first | decide | assumption) dX10_mend_40 ?_
    refine aw_iconst hX (1) dX10_mend_41 (by decide) ?_
    refine aw_iload_n hX dX10_mend_42 rfl ?_
    refine aw_ishl hX dX10_mend_43 ?_
    refine aw_iconst hX (-1) dX10_mend_44 (by decide) ?_
    refine aw_ixor hX dX10_mend_45 ?_
    refine aw_iand hX dX10_mend_46 ?_
    refine aw_iastN hX (89 + j) (by assumption) (nI_add 89 j) (by omega) (by first | decide | assumption) dX10_mend_47 ?_
    rw [z3]
    have q := q.put (upd s (89 + j) (B.1.1.2.2.2.1 j &&& (mk i ^^^ (-1))))
    have sm := sm.set (a := y + 1) (c := cI 729 (upd s (89 + j) (B.1.1.2.2.2.1 j &&& (mk i ^^^ (-1))))) (by omega) (by omega)
    have g5 := g5.stuck hjW (b7.and (mk i ^^^ (-1)))
    obtain ⟨z1, z2, z3, z4⟩ := g5.1.2.2.2.2.1 j hj
    obtain ⟨ps, ty, sp2, om2, g1⟩ := q.n
    obtain ⟨e0, e1⟩ := id g1
    refine aw_aload_n hX dX10_mend_48 rfl ?_
    refine gt_X10_7 hX dX10_mend_49 (by assumption) (by exact rfl) ?_
    refine aw_sipush hX (129) dX10_mend_52 (by decide) ?_
    refine aw_iload_n hX dX10_mend_55 rfl ?_
    refine aw_iadd hX dX10_mend_56 ?_
    refine aw_dup2 hX dX10_mend_57 rfl rfl ?_
    refine aw_ialdN hX (129 + j) (by assumption) (nI_add 129 j) (by omega) (by first | decide | assumption) dX10_mend_58 ?_
    refine aw_iconst hX (1) dX10_mend_59 (by decide) ?_
    refine aw_iload_n hX dX10_mend_60 rfl ?_
    refine aw_ishl hX dX10_mend_61 ?_
    refine aw_iconst hX (-1) dX10_mend_62 (by decide) ?_
    refine aw_ixor hX dX10_mend_63 ?_
    refine aw_iand hX dX10_mend_64 ?_
    refine aw_iastN hX (129 + j) (by assumption) (nI_add 129 j) (by omega) (by first | decide | assumption) dX10_mend_65 ?_
    rw [z4]
    have q := q.put (upd (upd s (89 + j) (B.1.1.2.2.2.1 j &&& (mk i ^^^ (-1)))) (129 + j) (B.1.1.2.2.2.2.1 j &&& (mk i ^^^ (-1))))
    have sm := sm.set (a := y + 1) (c := cI 729 (upd (upd s (89 + j) (B.1.1.2.2.2.1 j &&& (mk i ^^^ (-1)))) (129 + j) (B.1.1.2.2.2.2.1 j &&& (mk i ^^^ (-1))))) (by omega) (by omega)
    have g5 := g5.known hjW (b8.and (mk i ^^^ (-1)))
    obtain ⟨ps, ty, sp2, om2, g1⟩ := q.n
    obtain ⟨e0, e1⟩ := id g1
    refine aw_aload_n hX dX10_mend_66 rfl ?_
    refine gt_X10_7 hX dX10_mend_67 (by assumption) (by exact rfl) ?_
    refine aw_sipush hX (169) dX10_mend_70 (by decide) ?_
    refine aw_bipush hX (7) dX10_mend_73 (by decide) ?_
    refine aw_iload_n hX dX10_mend_75 rfl ?_
    refine aw_imul hX dX10_mend_76 ?_
    refine aw_iadd hX dX10_mend_77 ?_
    refine aw_iload_n hX dX10_mend_78 rfl ?_
    refine aw_iadd hX dX10_mend_79 ?_
    refine aw_iconst hX (0) dX10_mend_80 (by decide) ?_
    refine aw_iastN hX (169 + 7 * j + i) (by assumption) (ix_f j i) (by omega) (by first | decide | assumption) dX10_mend_81 ?_
    have q := q.put (upd (upd (upd s (89 + j) (B.1.1.2.2.2.1 j &&& (mk i ^^^ (-1)))) (129 + j) (B.1.1.2.2.2.2.1 j &&& (mk i ^^^ (-1)))) (169 + 7 * j + i) 0)
    have sm := sm.set (a := y + 1) (c := cI 729 (upd (upd (upd s (89 + j) (B.1.1.2.2.2.1 j &&& (mk i ^^^ (-1)))) (129 + j) (B.1.1.2.2.2.2.1 j &&& (mk i ^^^ (-1)))) (169 + 7 * j + i) 0)) (by omega) (by omega)
    have g5 := g5.flp hj hi 0
    obtain ⟨ps, ty, sp2, om2, g1⟩ := q.n
    obtain ⟨e0, e1⟩ := id g1
    refine aw_aload_n hX dX10_mend_82 rfl ?_
    refine aw_iload_n hX dX10_mend_83 rfl ?_
    refine aw_callV0 hX RX10 rfl (tX10_ends _ _ _ q g5 _) rfl mf_X10_ends mi_X10_ends ms_X10_ends kl_X10_103 (by assumption) rfl rfl (by decide) (Nat.le_of_ble_eq_true rfl) dX10_mend_84 (by decide) (fun v_84 h_84 p_84 => ?_)
    obtain ⟨rfl, q, s2⟩ := p_84
    exact aw_iret hX rfl rfl rfl rfl dX10_mend_87 (by exact ⟨rfl, ⟨_, _, _, q⟩, sm.tr s2 (Nat.le_refl _) (Nat.le_refl _)⟩)
  · refine aw_sipush hX (-1001) dX10_mend_9 (by decide) ?_
    exact aw_iret hX rfl rfl rfl rfl dX10_mend_12 (by rw [fMend, if_neg (bI_eq0.mp c_6)]; exact ⟨rfl, ⟨_, _, _, e⟩, Sm.rf⟩)
theorem tX10_darken (l : Launch) (E : EV) (n : Nat) (H : HR h y B W P o) : MX10_darken l E n h [.ref y] (PM y h (fDarken B)) := by
  obtain ⟨s, q⟩ := H
  obtain ⟨pa, sp, om, g1, g2, g3, g4, g5, g6, g7⟩ := id q
  obtain ⟨e0, e1⟩ := id g1
  refine AM.intro mf_X10_darken (by simp [Value.category]) (Nat.le_of_ble_eq_true rfl) (fun X hl hE hnm hX => ?_)
  subst hl
  subst hE
  show AW X _ _ 0 0 0 [some (.ref y), none] []
  have loop : ∀ (g j : Nat) (s' : IF) (hh : HP), j ≤ 40 → 40 - j < g → HQ hh y s' B W P o → Sm y (y + 13) h hh → (∀ k, k < 49 ∨ 89 ≤ k → s' k = s k) → (∀ c, c < j → s' (49 + c) = 0) → AW X n hh 0 0 6 [some (.ref y), some (.int (nI j))] [] := by
    intro g
    induction g with
    | zero => intro j s' hh h1 h2; omega
    | succ g ih =>
      intro j s' hh h1 h2 q sm h3 h4
      obtain ⟨ps, ty, sp2, om2, g1⟩ := q.n
      obtain ⟨e0, e1⟩ := id g1
      refine aw_iload_n hX dX10_darken_6 rfl ?_
      refine aw_bipush hX (40) dX10_darken_7 (by decide) ?_
      refine aw_icmp_ge hX 28 dX10_darken_9 (by decide) (fun c_9 => ?_) (fun c_9 => ?_)
      · have n_9 : 40 ≤ j := (nI_leI (a := 40) (b := j) (by omega) (by omega)).mp c_9
        have g5 := g5.aim (p := fun _ => 0) h3 (fun c hc => h4 c (by omega)) (fun c => B7_0) (fun c hc => rfl)
        refine aw_aload_n hX dX10_darken_28 rfl ?_
        refine aw_aload_n hX dX10_darken_29 rfl ?_
        refine aw_callVp hX RX10 rfl (tX10_dueMany _ _ _ g1 g5.1 g5.2.2.2 g5.2.1.2.2.2.2.2) rfl mf_X10_dueMany mi_X10_dueMany ms_X10_dueMany kl_X10_145 (by assumption) rfl rfl (by decide) (Nat.le_of_ble_eq_true rfl) dX10_darken_30 (by decide) ?_
        refine aw_callV0 hX RX10 rfl (tX10_ends _ _ _ q g5 _) rfl mf_X10_ends mi_X10_ends ms_X10_ends kl_X10_103 (by assumption) rfl rfl (by decide) (Nat.le_of_ble_eq_true rfl) dX10_darken_33 (by decide) (fun v_33 h_33 p_33 => ?_)
        obtain ⟨rfl, q, s2⟩ := p_33
        exact aw_iret hX rfl rfl rfl rfl dX10_darken_36 (by exact ⟨rfl, ⟨_, _, _, q⟩, sm.tr s2 (Nat.le_refl _) (Nat.le_refl _)⟩)
      · have n_9 : ¬ 40 ≤ j := fun q => c_9 ((nI_leI (a := 40) (b := j) (by omega) (by omega)).mpr q)
        refine aw_aload_n hX dX10_darken_12 rfl ?_
        refine gt_X10_7 hX dX10_darken_13 (by assumption) (by exact rfl) ?_
        refine aw_bipush hX (49) dX10_darken_16 (by decide) ?_
        refine aw_iload_n hX dX10_darken_18 rfl ?_
        refine aw_iadd hX dX10_darken_19 ?_
        refine aw_iconst hX (0) dX10_darken_20 (by decide) ?_
        refine aw_iastN hX (49 + j) (by assumption) (nI_add 49 j) (by omega) (by first | decide | assumption) dX10_darken_21 ?_
        refine aw_iinc hX (nI (j + 1)) dX10_darken_22 rfl (nI_1 j) ?_
        refine aw_goto hX 6 dX10_darken_25 (by decide) ?_
        exact ih (j + 1) (upd s' (49 + j) 0) _ (by omega) (by omega) (q.put _) (sm.set (by omega) (by omega)) (fun k hk => (pk_un (by omega)).trans (h3 k hk)) (fun c hc => by by_cases e : c = j; (subst e; exact pk_us); exact (pk_un (by omega)).trans (h4 c (by omega)))
  refine aw_aload_n hX dX10_darken_0 rfl ?_
  refine aw_callV0 hX RX10 rfl (tX10_hold _ _ _ q) rfl mf_X10_hold mi_X10_hold ms_X10_hold kl_X10_100 (by assumption) rfl rfl (by decide) (Nat.le_of_ble_eq_true rfl) dX10_darken_1 (by decide) (fun v_1 h_1 p_1 => ?_)
  obtain ⟨rfl, q, sm⟩ := p_1
  refine aw_iconst hX (0) dX10_darken_4 (by decide) ?_
  refine aw_istore_n hX dX10_darken_5 (Nat.le_of_ble_eq_true rfl) ?_
  exact loop 41 0 s _ (by decide) (by decide) q sm (fun k hk => rfl) (fun c hc => absurd hc (by omega))
end REF6
