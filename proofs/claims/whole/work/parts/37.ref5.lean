/-! the reference: looking, 2 -/
theorem le25 (r : Int32) : r ≤ 25 ↔ r < 26 := by
  rw [Int32.le_iff_toInt_le, Int32.lt_iff_toInt_lt, show (25 : Int32).toInt = 25 by decide, show (26 : Int32).toInt = 26 by decide]
  omega
section REF5
variable {h : HP} {y : Nat} {B : FV} {W P o : Nat}
theorem tX10_betweenOf (l : Launch) (E : EV) (n : Nat) {s : IF} {ps ty sp om : Nat} {v : PV} (H : HN h y s ps ty sp om) (R : RI s v W P o) {a b : Nat} (ha : a < v.2.2.1.2.2.2.2) (hb : b < v.2.2.1.2.2.2.2) {f0 f1 : IF} (hp : h (y + 6) = some (cI 40 f0)) (hq : h (y + 7) = some (cI 40 f1)) : MX10_betweenOf l E n h [.ref y, .int (nI a), .int (nI b)] (fun r h' => r = some (.int (dfF v (pF W v.2.2.1 a 0) (pF W v.2.2.1 b 0))) ∧ ∃ f g, h' = hset (hset h (y + 7) (cI 40 f)) (y + 6) (cI 40 g)) := by
  have e := H
  obtain ⟨e0, e1⟩ := H
  obtain ⟨R1, ⟨-, -, hS, -, -, hB⟩, hSB, hZ⟩ := id R
  have hd : ∀ {hh : HP}, HN hh y s ps ty sp om → hh (y + 7) = some (cI 40 (pF W v.2.2.1 a 0)) → hh (y + 6) = some (cI 40 (pF W v.2.2.1 b 0)) → MX10_differs l E n hh [.ref y, .ref (y + 7), .int 0, .ref (y + 6), .int 0] (PR (.int (dfF v (pF W v.2.2.1 a 0) (pF W v.2.2.1 b 0))) hh) := fun e hq hp => tX10_differs _ _ _ e R1 hB hq (b := 0) (q := pF W v.2.2.1 a 0) (by decide) (by decide) (fun c hc => ⟨by rw [Nat.zero_add], pF_B7 hSB _ _ _ c⟩) hp (fun c _ => pF_B7 hSB _ _ _ c) (fun c h1 h2 => ⟨pF_out h1, pF_out h1⟩) false
  refine AM.intro mf_X10_betweenOf (by simp [Value.category]) (Nat.le_of_ble_eq_true rfl) (fun X hl hE hnm hX => ?_)
  subst hl
  subst hE
  show AW X _ _ 0 0 0 [some (.ref y), some (.int (nI a)), some (.int (nI b))] []
  refine aw_aload_n hX dX10_betweenOf_0 rfl ?_
  refine aw_iload_n hX dX10_betweenOf_1 rfl ?_
  refine aw_iconst hX (0) dX10_betweenOf_2 (by decide) ?_
  refine aw_aload_n hX dX10_betweenOf_3 rfl ?_
  refine gt_X10_28 hX dX10_betweenOf_4 (by assumption) (by exact rfl) ?_
  refine aw_callV0 hX RX10 rfl (tX10_lays _ _ _ e R1 hS ha (z := 0) (by decide) (by decide) hq (by omega)) rfl mf_X10_lays mi_X10_lays ms_X10_lays kl_X10_75 (by assumption) rfl rfl (by decide) (Nat.le_of_ble_eq_true rfl) dX10_betweenOf_7 (by decide) (fun v_7 h_7 p_7 => ?_)
  obtain ⟨rfl, rfl⟩ := p_7
  have e := e.off (a := y + 7) (cI 40 (pF W v.2.2.1 a 0)) (by omega)
  have e0 := e.1
  have hq := hset_eq h (y + 7) (cI 40 (pF W v.2.2.1 a 0))
  have hp := (hset_ne h (q := y + 6) (a := y + 7) (cI 40 (pF W v.2.2.1 a 0)) (by omega)).trans hp
  refine aw_aload_n hX dX10_betweenOf_10 rfl ?_
  refine aw_iload_n hX dX10_betweenOf_11 rfl ?_
  refine aw_iconst hX (0) dX10_betweenOf_12 (by decide) ?_
  refine aw_aload_n hX dX10_betweenOf_13 rfl ?_
  refine gt_X10_25 hX dX10_betweenOf_14 (by assumption) (by exact rfl) ?_
  refine aw_callV0 hX RX10 rfl (tX10_lays _ _ _ e R1 hS hb (z := 0) (by decide) (by decide) hp (by omega)) rfl mf_X10_lays mi_X10_lays ms_X10_lays kl_X10_75 (by assumption) rfl rfl (by decide) (Nat.le_of_ble_eq_true rfl) dX10_betweenOf_17 (by decide) (fun v_17 h_17 p_17 => ?_)
  obtain ⟨rfl, rfl⟩ := p_17
  have e := e.off (a := y + 6) (cI 40 (pF W v.2.2.1 b 0)) (by omega)
  have e0 := e.1
  have hp := hset_eq (hset h (y + 7) (cI 40 (pF W v.2.2.1 a 0))) (y + 6) (cI 40 (pF W v.2.2.1 b 0))
  have hq := (hset_ne (hset h (y + 7) (cI 40 (pF W v.2.2.1 a 0))) (q := y + 7) (a := y + 6) (cI 40 (pF W v.2.2.1 b 0)) (by omega)).trans hq
  refine aw_aload_n hX dX10_betweenOf_20 rfl ?_
  refine aw_aload_n hX dX10_betweenOf_21 rfl ?_
  refine gt_X10_28 hX dX10_betweenOf_22 (by assumption) (by exact rfl) ?_
  refine aw_iconst hX (0) dX10_betweenOf_25 (by decide) ?_
  refine aw_aload_n hX dX10_betweenOf_26 rfl ?_
  refine gt_X10_25 hX dX10_betweenOf_27 (by assumption) (by exact rfl) ?_
  refine aw_iconst hX (0) dX10_betweenOf_30 (by decide) ?_
  refine aw_callVp hX RX10 rfl (hd e hq hp) rfl mf_X10_differs mi_X10_differs ms_X10_differs kl_X10_79 (by assumption) rfl rfl (by decide) (Nat.le_of_ble_eq_true rfl) dX10_betweenOf_31 (by decide) ?_
  exact aw_iret hX rfl rfl rfl rfl dX10_betweenOf_34 (by exact ⟨rfl, _, _, rfl⟩)
theorem tX10_between (l : Launch) (E : EV) (n : Nat) (H : HR h y B W P o) (a b : Int32) : MX10_between l E n h [.ref y, .int a, .int b] (PL y h B W P o (fBetween B W a b)) := by
  have e := H
  obtain ⟨s, pa, sp, om, g1, g2, g3, g4, g5, g6, g7⟩ := H
  have e0 := g1.1
  have hS := g5.2.1.2.2.1
  have hK8 : (BS B).2.2.2.2 ≤ 8 := hS.1
  obtain ⟨f0, p1⟩ := g2.1
  obtain ⟨f1, p2⟩ := g2.2.1
  refine AM.intro mf_X10_between (by simp [Value.category]) (Nat.le_of_ble_eq_true rfl) (fun X hl hE hnm hX => ?_)
  subst hl
  subst hE
  show AW X _ _ 0 0 0 [some (.ref y), some (.int a), some (.int b)] []
  refine aw_aload_n hX dX10_between_0 rfl ?_
  refine aw_iload_n hX dX10_between_1 rfl ?_
  refine aw_callVp hX RX10 rfl (tX10_isMsg _ _ _ g1 g5 a) rfl mf_X10_isMessage mi_X10_isMessage ms_X10_isMessage kl_X10_110 (by assumption) rfl rfl (by decide) (Nat.le_of_ble_eq_true rfl) dX10_between_2 (by decide) ?_
  refine aw_if_eq hX 25 dX10_between_5 (by decide) (fun c_5 => ?_) (fun c_5 => ?_)
  · refine aw_sipush hX (-1001) dX10_between_25 (by decide) ?_
    exact aw_iret hX rfl rfl rfl rfl dX10_between_28 (by rw [fBetween, if_neg (fun q => bI_eq0.mp c_5 q.1)]; exact ⟨rfl, e, Sm.rf⟩)
  · refine aw_aload_n hX dX10_between_8 rfl ?_
    refine aw_iload_n hX dX10_between_9 rfl ?_
    refine aw_callVp hX RX10 rfl (tX10_isMsg _ _ _ g1 g5 b) rfl mf_X10_isMessage mi_X10_isMessage ms_X10_isMessage kl_X10_110 (by assumption) rfl rfl (by decide) (Nat.le_of_ble_eq_true rfl) dX10_between_10 (by decide) ?_
    refine aw_if_eq hX 25 dX10_between_13 (by decide) (fun c_13 => ?_) (fun c_13 => ?_)
    · rw [fBetween, if_neg (fun q => bI_eq0.mp c_13 q.2)] at hX
      have sm := Sm.rf (lo := y) (hi := y + 13) (h := h)
      refine aw_sipush hX (-1001) dX10_between_25 (by decide) ?_
      exact aw_iret hX rfl rfl rfl rfl dX10_between_28 (by exact ⟨rfl, e, sm⟩)
    · have hm := Decidable.not_not.mp (fun q => c_5 (bI_eq0.mpr q))
      have hc := Decidable.not_not.mp (fun q => c_13 (bI_eq0.mpr q))
      rw [fBetween, if_pos (And.intro hm hc)] at hX
      obtain ⟨k, hk, rfl⟩ := rng (BS B).2.2.2.2 (by omega) hm.1 hm.2.1
      have hkc : (nI k).toNatClampNeg = k := nI_clamp (by omega)
      obtain ⟨j, hj, rfl⟩ := rng (BS B).2.2.2.2 (by omega) hc.1 hc.2.1
      have hjc : (nI j).toNatClampNeg = j := nI_clamp (by omega)
      rw [hkc, hjc] at hX
      refine aw_aload_n hX dX10_between_16 rfl ?_
      refine aw_iload_n hX dX10_between_17 rfl ?_
      refine aw_iload_n hX dX10_between_18 rfl ?_
      refine aw_callV0 hX RX10 rfl (tX10_betweenOf _ _ _ g1 g5 hk hj p1 p2) rfl mf_X10_betweenOf mi_X10_betweenOf ms_X10_betweenOf kl_X10_160 (by assumption) rfl rfl (by decide) (Nat.le_of_ble_eq_true rfl) dX10_between_19 (by decide) (fun v_19 h_19 p_19 => ?_)
      obtain ⟨rfl, f, g, rfl⟩ := p_19
      have e := (e.oth f).pic g
      have sm := (Sm.set (lo := y) (hi := y + 13) (Sm.rf (h := h)) (a := y + 7) (c := cI 40 f) (by omega) (by omega)).set (a := y + 6) (c := cI 40 g) (by omega) (by omega)
      refine aw_goto hX 28 dX10_between_22 (by decide) ?_
      exact aw_iret hX rfl rfl rfl rfl dX10_between_28 (by exact ⟨rfl, e, sm⟩)
theorem tX10_column (l : Launch) (E : EV) (n : Nat) (H : HR h y B W P o) (c w : Int32) : MX10_column l E n h [.ref y, .int c, .int w] (PL y h B W P o (fColumn B c w)) := by
  have e := H
  obtain ⟨s, pa, sp, om, g1, g2, g3, g4, g5, g6, g7⟩ := H
  obtain ⟨e0, e1⟩ := id g1
  refine AM.intro mf_X10_column (by simp [Value.category]) (Nat.le_of_ble_eq_true rfl) (fun X hl hE hnm hX => ?_)
  subst hl
  subst hE
  show AW X _ _ 0 0 0 [some (.ref y), some (.int c), some (.int w)] []
  refine aw_aload_n hX dX10_column_0 rfl ?_
  refine aw_iload_n hX dX10_column_1 rfl ?_
  refine aw_callVp hX RX10 rfl (tX10_isCol _ _ _ g1 g5 c) rfl mf_X10_isColumn mi_X10_isColumn ms_X10_isColumn kl_X10_68 (by assumption) rfl rfl (by decide) (Nat.le_of_ble_eq_true rfl) dX10_column_2 (by decide) ?_
  refine aw_if_eq hX 34 dX10_column_5 (by decide) (fun c_5 => ?_) (fun c_5 => ?_)
  · refine aw_sipush hX (-1001) dX10_column_34 (by decide) ?_
    exact aw_iret hX rfl rfl rfl rfl dX10_column_37 (by rw [fColumn, if_neg (bI_eq0.mp c_5)]; exact ⟨rfl, e, Sm.rf⟩)
  · refine aw_iload_n hX dX10_column_8 rfl ?_
    refine aw_iconst hX (0) dX10_column_9 (by decide) ?_
    refine aw_iconst hX (3) dX10_column_10 (by decide) ?_
    refine aw_callSp hX RX10 rfl (tX10_in _ _ _ _ w 0 3) rfl mf_X10_in mt_X10_in kl_X10_96 rfl (by decide) (Nat.le_of_ble_eq_true rfl) dX10_column_11 (by decide) ?_
    refine aw_if_eq hX 34 dX10_column_14 (by decide) (fun c_14 => ?_) (fun c_14 => ?_)
    · have hw := bI_eq0.mp c_14
      have hx : fColumn B c w = -1001 := by rw [fColumn, if_neg (show ¬ w = 0 from fun q => hw (by rw [q]; decide)), if_neg (show ¬ w = 1 from fun q => hw (by rw [q]; decide)), if_neg (show ¬ w = 2 from fun q => hw (by rw [q]; decide)), if_neg (show ¬ w = 3 from fun q => hw (by rw [q]; decide)), ite_self]
      rw [hx] at hX
      refine aw_sipush hX (-1001) dX10_column_34 (by decide) ?_
      exact aw_iret hX rfl rfl rfl rfl dX10_column_37 (by first | exact ⟨congrArg (fun z => some (Value.int z)) hx, e, Sm.rf⟩ | exact ⟨rfl, e, Sm.rf⟩)
    · have hv := Decidable.not_not.mp (fun q => c_5 (bI_eq0.mpr q))
      have hw := Decidable.not_not.mp (fun q => c_14 (bI_eq0.mpr q))
      obtain ⟨j, hj, rfl⟩ := rng 40 (by decide) hv.1 hv.2.2
      have hjc : (nI j).toNatClampNeg = j := nI_clamp (by omega)
      rw [fColumn, hjc, if_pos hv] at hX
      obtain ⟨k, hk, rfl⟩ := rng 4 (by decide) hw.1 (Int32.lt_of_le_of_lt hw.2 (by decide))
      obtain ⟨r1, r2, r3, r4⟩ := g5.1.2.2.2.2.1 j hj
      refine aw_aload_n hX dX10_column_17 rfl ?_
      refine gt_X10_7 hX dX10_column_18 (by assumption) (by exact rfl) ?_
      refine aw_bipush hX (9) dX10_column_21 (by decide) ?_
      refine aw_bipush hX (40) dX10_column_23 (by decide) ?_
      refine aw_iload_n hX dX10_column_25 rfl ?_
      refine aw_imul hX dX10_column_26 ?_
      refine aw_iadd hX dX10_column_27 ?_
      refine aw_iload_n hX dX10_column_28 rfl ?_
      refine aw_iadd hX dX10_column_29 ?_
      refine AW.top (y := nI (9 + 40 * k + j)) (by rw [show (40 : Int32) = nI 40 from rfl, show (9 : Int32) = nI 9 from rfl, pk_mul, nI_add, nI_add]) ?_
      refine aw_ialdN hX (9 + 40 * k + j) (by assumption) rfl (by omega) (by first | decide | assumption) dX10_column_30 ?_
      have hx : s (9 + 40 * k + j) = (if nI k = 0 then B.1.1.2.1 j else if nI k = 1 then B.1.1.2.2.1 j else if nI k = 2 then B.1.1.2.2.2.1 j else if nI k = 3 then B.1.1.2.2.2.2.1 j else -1001) := by rcases (show k = 0 ∨ k = 1 ∨ k = 2 ∨ k = 3 by omega) with q | q | q | q <;> subst q; exact r1; exact r2; exact r3; exact r4
      refine aw_goto hX 37 dX10_column_31 (by decide) ?_
      exact aw_iret hX rfl rfl rfl rfl dX10_column_37 (by first | exact ⟨congrArg (fun z => some (Value.int z)) hx, e, Sm.rf⟩ | exact ⟨rfl, e, Sm.rf⟩)
theorem tX10_flips (l : Launch) (E : EV) (n : Nat) (H : HR h y B W P o) (c r : Int32) : MX10_flips l E n h [.ref y, .int c, .int r] (PL y h B W P o (fFlips B c r)) := by
  have e := H
  obtain ⟨s, pa, sp, om, g1, g2, g3, g4, g5, g6, g7⟩ := H
  obtain ⟨e0, e1⟩ := id g1
  refine AM.intro mf_X10_flips (by simp [Value.category]) (Nat.le_of_ble_eq_true rfl) (fun X hl hE hnm hX => ?_)
  subst hl
  subst hE
  show AW X _ _ 0 0 0 [some (.ref y), some (.int c), some (.int r)] []
  refine aw_aload_n hX dX10_flips_0 rfl ?_
  refine aw_iload_n hX dX10_flips_1 rfl ?_
  refine aw_iload_n hX dX10_flips_2 rfl ?_
  refine aw_callVp hX RX10 rfl (tX10_isDt _ _ _ g1 g5 c r) rfl mf_X10_isDot mi_X10_isDot ms_X10_isDot kl_X10_148 (by assumption) rfl rfl (by decide) (Nat.le_of_ble_eq_true rfl) dX10_flips_3 (by decide) ?_
  refine aw_if_eq hX 27 dX10_flips_6 (by decide) (fun c_6 => ?_) (fun c_6 => ?_)
  · rw [fFlips, if_neg (bI_eq0.mp c_6)] at hX
    refine aw_sipush hX (-1001) dX10_flips_27 (by decide) ?_
    exact aw_iret hX rfl rfl rfl rfl dX10_flips_30 (by exact ⟨rfl, e, Sm.rf⟩)
  · have hv := Decidable.not_not.mp (fun q => c_6 (bI_eq0.mpr q))
    rw [fFlips, if_pos hv] at hX
    obtain ⟨j, hj, rfl⟩ := rng 40 (by decide) hv.1.1 hv.1.2.2
    obtain ⟨i, hi, rfl⟩ := rng 7 (by decide) hv.2.1 hv.2.2
    have hjc : (nI j).toNatClampNeg = j := nI_clamp (by omega)
    have hic : (nI i).toNatClampNeg = i := nI_clamp (by omega)
    rw [hjc, hic, ← g5.1.2.2.2.2.2.1 j i hj hi] at hX
    refine aw_aload_n hX dX10_flips_9 rfl ?_
    refine gt_X10_7 hX dX10_flips_10 (by assumption) (by exact rfl) ?_
    refine aw_sipush hX (169) dX10_flips_13 (by decide) ?_
    refine aw_bipush hX (7) dX10_flips_16 (by decide) ?_
    refine aw_iload_n hX dX10_flips_18 rfl ?_
    refine aw_imul hX dX10_flips_19 ?_
    refine aw_iadd hX dX10_flips_20 ?_
    refine aw_iload_n hX dX10_flips_21 rfl ?_
    refine aw_iadd hX dX10_flips_22 ?_
    refine aw_ialdN hX (169 + 7 * j + i) (by assumption) (ix_f j i) (by omega) (by first | decide | assumption) dX10_flips_23 ?_
    refine aw_goto hX 30 dX10_flips_24 (by decide) ?_
    exact aw_iret hX rfl rfl rfl rfl dX10_flips_30 (by exact ⟨rfl, e, Sm.rf⟩)
theorem tX10_letter (l : Launch) (E : EV) (n : Nat) (H : HR h y B W P o) (a i : Int32) : MX10_letter l E n h [.ref y, .int a, .int i] (PL y h B W P o (fLetter B a i)) := by
  have e := H
  obtain ⟨s, pa, sp, om, g1, g2, g3, g4, g5, g6, g7⟩ := H
  obtain ⟨e0, e1⟩ := id g1
  have hS := g5.2.1.2.2.1
  refine AM.intro mf_X10_letter (by simp [Value.category]) (Nat.le_of_ble_eq_true rfl) (fun X hl hE hnm hX => ?_)
  subst hl
  subst hE
  show AW X _ _ 0 0 0 [some (.ref y), some (.int a), some (.int i)] []
  refine aw_iload_n hX dX10_letter_0 rfl ?_
  refine aw_iconst hX (0) dX10_letter_1 (by decide) ?_
  refine aw_bipush hX (25) dX10_letter_2 (by decide) ?_
  refine aw_callSp hX RX10 rfl (tX10_in _ _ _ _ a 0 25) rfl mf_X10_in mt_X10_in kl_X10_96 rfl (by decide) (Nat.le_of_ble_eq_true rfl) dX10_letter_4 (by decide) ?_
  refine aw_if_eq hX 14 dX10_letter_7 (by decide) (fun c_7 => ?_) (fun c_7 => ?_)
  · refine aw_sipush hX (-1001) dX10_letter_14 (by decide) ?_
    exact aw_iret hX rfl rfl rfl rfl dX10_letter_17 (by rw [fLetter, if_neg (fun q => bI_eq0.mp c_7 ⟨q.1.1, (le25 a).mpr q.1.2⟩)]; exact ⟨rfl, e, Sm.rf⟩)
  · refine aw_iload_n hX dX10_letter_10 rfl ?_
    refine aw_if_ge hX 18 dX10_letter_11 (by decide) (fun c_11 => ?_) (fun c_11 => ?_)
    · have hv := Decidable.not_not.mp (fun q => c_7 (bI_eq0.mpr q))
      rw [fLetter, if_pos ⟨⟨hv.1, (le25 a).mp hv.2⟩, c_11⟩] at hX
      obtain ⟨k, hk, rfl⟩ := rng 26 (by decide) hv.1 ((le25 a).mp hv.2)
      have hkc : (nI k).toNatClampNeg = k := nI_clamp (by omega)
      rw [hkc] at hX
      obtain ⟨r1, r2⟩ := g5.1.2.2.2.2.2.2.1 k hk
      have hw5 : (BS B).2.1 k ≤ 5 := hS.2.1 k hk
      refine aw_iload_n hX dX10_letter_18 rfl ?_
      refine aw_aload_n hX dX10_letter_19 rfl ?_
      refine gt_X10_7 hX dX10_letter_20 (by assumption) (by exact rfl) ?_
      refine aw_sipush hX (449) dX10_letter_23 (by decide) ?_
      refine aw_bipush hX (6) dX10_letter_26 (by decide) ?_
      refine aw_iload_n hX dX10_letter_28 rfl ?_
      refine aw_imul hX dX10_letter_29 ?_
      refine aw_iadd hX dX10_letter_30 ?_
      refine aw_ialdN hX (449 + 6 * k) (by assumption) (ix_l k) (by omega) (by first | decide | assumption) dX10_letter_31 ?_
      rw [r1]
      refine aw_icmp_ge hX 55 dX10_letter_32 (by decide) (fun c_32 => ?_) (fun c_32 => ?_)
      · rw [if_neg (Int32.not_lt.mpr c_32)] at hX
        refine aw_sipush hX (-1009) dX10_letter_55 (by decide) ?_
        exact aw_iret hX rfl rfl rfl rfl dX10_letter_58 (by exact ⟨rfl, e, Sm.rf⟩)
      · have c_33 := Int32.not_le.mp c_32
        rw [if_pos c_33] at hX
        obtain ⟨j, hj, rfl⟩ := rng ((BS B).2.1 k) (by omega) c_11 c_33
        have hjc : (nI j).toNatClampNeg = j := nI_clamp (by omega)
        rw [hjc, ← r2 j hj] at hX
        refine aw_aload_n hX dX10_letter_35 rfl ?_
        refine gt_X10_7 hX dX10_letter_36 (by assumption) (by exact rfl) ?_
        refine aw_sipush hX (449) dX10_letter_39 (by decide) ?_
        refine aw_bipush hX (6) dX10_letter_42 (by decide) ?_
        refine aw_iload_n hX dX10_letter_44 rfl ?_
        refine aw_imul hX dX10_letter_45 ?_
        refine aw_iadd hX dX10_letter_46 ?_
        rw [ix_l k]
        refine aw_iconst hX (1) dX10_letter_47 (by decide) ?_
        refine aw_iadd hX dX10_letter_48 ?_
        rw [nI_1]
        refine aw_iload_n hX dX10_letter_49 rfl ?_
        refine aw_iadd hX dX10_letter_50 ?_
        refine aw_ialdN hX (449 + 6 * k + 1 + j) (by assumption) (nI_add _ _) (by omega) (by first | decide | assumption) dX10_letter_51 ?_
        refine aw_goto hX 58 dX10_letter_52 (by decide) ?_
        exact aw_iret hX rfl rfl rfl rfl dX10_letter_58 (by exact ⟨rfl, e, Sm.rf⟩)
    · refine aw_sipush hX (-1001) dX10_letter_14 (by decide) ?_
      exact aw_iret hX rfl rfl rfl rfl dX10_letter_17 (by rw [fLetter, if_neg (fun q => c_11 q.2)]; exact ⟨rfl, e, Sm.rf⟩)
theorem tX10_message (l : Launch) (E : EV) (n : Nat) (H : HR h y B W P o) (a i : Int32) : MX10_message l E n h [.ref y, .int a, .int i] (PL y h B W P o (fMessage B a i)) := by
  have e := H
  obtain ⟨s, pa, sp, om, g1, g2, g3, g4, g5, g6, g7⟩ := H
  obtain ⟨e0, e1⟩ := id g1
  have hS := g5.2.1.2.2.1
  have hK8 : (BS B).2.2.2.2 ≤ 8 := hS.1
  refine AM.intro mf_X10_message (by simp [Value.category]) (Nat.le_of_ble_eq_true rfl) (fun X hl hE hnm hX => ?_)
  subst hl
  subst hE
  show AW X _ _ 0 0 0 [some (.ref y), some (.int a), some (.int i)] []
  refine aw_aload_n hX dX10_message_0 rfl ?_
  refine aw_iload_n hX dX10_message_1 rfl ?_
  refine aw_callVp hX RX10 rfl (tX10_isMsg _ _ _ g1 g5 a) rfl mf_X10_isMessage mi_X10_isMessage ms_X10_isMessage kl_X10_110 (by assumption) rfl rfl (by decide) (Nat.le_of_ble_eq_true rfl) dX10_message_2 (by decide) ?_
  refine aw_if_eq hX 12 dX10_message_5 (by decide) (fun c_5 => ?_) (fun c_5 => ?_)
  · refine aw_sipush hX (-1001) dX10_message_12 (by decide) ?_
    exact aw_iret hX rfl rfl rfl rfl dX10_message_15 (by rw [fMessage, if_neg (fun q => bI_eq0.mp c_5 q.1)]; exact ⟨rfl, e, Sm.rf⟩)
  · refine aw_iload_n hX dX10_message_8 rfl ?_
    refine aw_if_ge hX 16 dX10_message_9 (by decide) (fun c_9 => ?_) (fun c_9 => ?_)
    · have hv := Decidable.not_not.mp (fun q => c_5 (bI_eq0.mpr q))
      rw [fMessage, if_pos ⟨hv, c_9⟩] at hX
      obtain ⟨k, hk, rfl⟩ := rng (BS B).2.2.2.2 (by omega) hv.1 hv.2.1
      have hkc : (nI k).toNatClampNeg = k := nI_clamp (by omega)
      rw [hkc] at hX
      obtain ⟨r1, r2⟩ := g5.1.2.2.2.2.2.2.2.1 k hk
      have q2 : (BS B).2.2.2.1 k ≤ 12 := (hS.2.2 k hk).2.1
      refine aw_iload_n hX dX10_message_16 rfl ?_
      refine aw_aload_n hX dX10_message_17 rfl ?_
      refine aw_iload_n hX dX10_message_18 rfl ?_
      refine aw_callVp hX RX10 rfl (tX10_lengthOf _ _ _ g1 (m := k) (by omega)) rfl mf_X10_lengthOf mi_X10_lengthOf ms_X10_lengthOf kl_X10_54 (by assumption) rfl rfl (by decide) (Nat.le_of_ble_eq_true rfl) dX10_message_19 (by decide) ?_
      rw [r1]
      refine aw_icmp_ge hX 34 dX10_message_22 (by decide) (fun c_22 => ?_) (fun c_22 => ?_)
      · rw [if_neg (Int32.not_lt.mpr c_22)] at hX
        refine aw_sipush hX (-1009) dX10_message_34 (by decide) ?_
        exact aw_iret hX rfl rfl rfl rfl dX10_message_37 (by exact ⟨rfl, e, Sm.rf⟩)
      · have c_23 := Int32.not_le.mp c_22
        rw [if_pos c_23] at hX
        obtain ⟨j, hj, rfl⟩ := rng ((BS B).2.2.2.1 k) (by omega) c_9 c_23
        have hjc : (nI j).toNatClampNeg = j := nI_clamp (by omega)
        rw [hjc, ← r2 j hj] at hX
        refine aw_aload_n hX dX10_message_25 rfl ?_
        refine aw_iload_n hX dX10_message_26 rfl ?_
        refine aw_iload_n hX dX10_message_27 rfl ?_
        refine aw_callVp hX RX10 rfl (tX10_characterOf _ _ _ g1 (m := k) (k := j) (by omega) (by omega)) rfl mf_X10_characterOf mi_X10_characterOf ms_X10_characterOf kl_X10_58 (by assumption) rfl rfl (by decide) (Nat.le_of_ble_eq_true rfl) dX10_message_28 (by decide) ?_
        refine aw_goto hX 37 dX10_message_31 (by decide) ?_
        exact aw_iret hX rfl rfl rfl rfl dX10_message_37 (by exact ⟨rfl, e, Sm.rf⟩)
    · refine aw_sipush hX (-1001) dX10_message_12 (by decide) ?_
      exact aw_iret hX rfl rfl rfl rfl dX10_message_15 (by rw [fMessage, if_neg (fun q => c_9 q.2)]; exact ⟨rfl, e, Sm.rf⟩)
theorem tX10_power (l : Launch) (E : EV) (n : Nat) (H : HR h y B W P o) (hT : B.1.2.1.2.2.2.1 < 2 ^ 30) (a : Int32) : MX10_power l E n h [.ref y, .int a] (PL y h B W P o (fPower B a)) := by
  have e := H
  obtain ⟨s, pa, sp, om, g1, g2, g3, g4, g5, g6, g7⟩ := H
  obtain ⟨e0, e1⟩ := id g1
  obtain ⟨-, -, -, r4, -, -, -, -, r9⟩ := id g5.1
  refine AM.intro mf_X10_power (by simp [Value.category]) (Nat.le_of_ble_eq_true rfl) (fun X hl hE hnm hX => ?_)
  subst hl
  subst hE
  show AW X _ _ 0 0 0 [some (.ref y), some (.int a)] []
  refine aw_iload_n hX dX10_power_0 rfl ?_
  refine aw_iconst hX (1) dX10_power_1 (by decide) ?_
  refine aw_bipush hX (20) dX10_power_2 (by decide) ?_
  refine aw_callSp hX RX10 rfl (tX10_in _ _ _ _ a 1 20) rfl mf_X10_in mt_X10_in kl_X10_96 rfl (by decide) (Nat.le_of_ble_eq_true rfl) dX10_power_4 (by decide) ?_
  refine aw_if_ne hX 14 dX10_power_7 (by decide) (fun c_7 => ?_) (fun c_7 => ?_)
  · have hv := Decidable.not_not.mp (fun q => c_7 (bI_eq0.mpr q))
    rw [fPower, if_pos hv] at hX
    obtain ⟨k, hk, rfl⟩ := rng 21 (by decide) (x := a) (Int32.le_trans (by decide) hv.1) (Int32.lt_of_le_of_lt hv.2 (by decide))
    have hkc : (nI k).toNatClampNeg = k := nI_clamp (by omega)
    rw [hkc] at hX
    have hk1 : 1 ≤ k := (nI_leI (a := 1) (b := k) (by decide) (by omega)).mp hv.1
    refine aw_iload_n hX dX10_power_14 rfl ?_
    refine aw_aload_n hX dX10_power_15 rfl ?_
    refine gt_X10_7 hX dX10_power_16 (by assumption) (by exact rfl) ?_
    refine aw_bipush hX (8) dX10_power_19 (by decide) ?_
    refine aw_ialdN hX (8) (by assumption) rfl (by decide) (by first | decide | assumption) dX10_power_21 ?_
    rw [r4.2.2.2]
    refine aw_icmp_le hX 31 dX10_power_22 (by decide) (fun c_22 => ?_) (fun c_22 => ?_)
    · have n_22 : k ≤ B.1.2.1.2.2.2.1 := (nI_leI (by omega) (by omega)).mp c_22
      have hq := r9 (k - 1) (by omega) (by omega)
      rw [if_pos c_22, show (B.1.2.1.2.2.2.1 - k) % 20 = (B.1.2.1.2.2.2.1 - 1 - (k - 1)) % 20 by congr 1; omega, ← hq] at hX
      refine aw_aload_n hX dX10_power_31 rfl ?_
      refine gt_X10_7 hX dX10_power_32 (by assumption) (by exact rfl) ?_
      refine aw_sipush hX (709) dX10_power_35 (by decide) ?_
      refine aw_iload_n hX dX10_power_38 rfl ?_
      refine aw_iadd hX dX10_power_39 ?_
      refine aw_iconst hX (1) dX10_power_40 (by decide) ?_
      refine aw_isub hX dX10_power_41 ?_
      refine AW.top (y := nI (709 + (k - 1))) (by rw [show (709 : Int32) = nI 709 from rfl, nI_add, show nI (709 + k) - 1 = nI (709 + k - 1) from pk_sub (b := 1) (by omega)]; congr 1; omega) ?_
      refine aw_ialdN hX (709 + (k - 1)) (by assumption) rfl (by omega) (by first | decide | assumption) dX10_power_42 ?_
      exact aw_iret hX rfl rfl rfl rfl dX10_power_43 (by exact ⟨rfl, e, Sm.rf⟩)
    · rw [if_neg c_22] at hX
      refine aw_sipush hX (-1009) dX10_power_25 (by decide) ?_
      refine aw_goto hX 43 dX10_power_28 (by decide) ?_
      exact aw_iret hX rfl rfl rfl rfl dX10_power_43 (by exact ⟨rfl, e, Sm.rf⟩)
  · refine aw_sipush hX (-1001) dX10_power_10 (by decide) ?_
    exact aw_iret hX rfl rfl rfl rfl dX10_power_13 (by rw [fPower, if_neg (bI_eq0.mp c_7)]; exact ⟨rfl, e, Sm.rf⟩)
theorem tX10_count (l : Launch) (E : EV) (n : Nat) (H : HR h y B W P o) (w : Int32) : MX10_count l E n h [.ref y, .int w] (PL y h B W P o (fCount B w)) := by
  have e := H
  obtain ⟨s, pa, sp, om, g1, g2, g3, g4, g5, g6, g7⟩ := H
  obtain ⟨e0, e1⟩ := id g1
  obtain ⟨R1, ⟨-, -, hS, -, -, hB⟩, hSB, hZ⟩ := id g5
  obtain ⟨r1, r2, r3, r4, r5, -⟩ := id R1
  refine AM.intro mf_X10_count (by simp [Value.category]) (Nat.le_of_ble_eq_true rfl) (fun X hl hE hnm hX => ?_)
  subst hl
  subst hE
  show AW X _ _ 0 0 0 [some (.ref y), some (.int w)] []
  refine aw_iload_n hX dX10_count_0 rfl ?_
  skip
  rcases sw_cases 14 w (by decide) with hw | ⟨k, hk, rfl⟩
  ·
    refine aw_tabOut hX 130 dX10_count_1 hw (by decide) ?_
    refine aw_sipush hX (-1001) dX10_count_130 (by decide) ?_
    exact aw_iret hX rfl rfl rfl rfl dX10_count_133 (by rw [fCount, if_neg (show ¬ w = 0 from swne hw (k := 0) (by decide) (by decide)), if_neg (show ¬ w = 1 from swne hw (k := 1) (by decide) (by decide)), if_neg (show ¬ w = 2 from swne hw (k := 2) (by decide) (by decide)), if_neg (show ¬ w = 3 from swne hw (k := 3) (by decide) (by decide)), if_neg (show ¬ w = 4 from swne hw (k := 4) (by decide) (by decide)), if_neg (show ¬ w = 5 from swne hw (k := 5) (by decide) (by decide)), if_neg (show ¬ w = 6 from swne hw (k := 6) (by decide) (by decide)), if_neg (show ¬ w = 7 from swne hw (k := 7) (by decide) (by decide)), if_neg (show ¬ w = 8 from swne hw (k := 8) (by decide) (by decide)), if_neg (show ¬ w = 9 from swne hw (k := 9) (by decide) (by decide)), if_neg (show ¬ w = 10 from swne hw (k := 10) (by decide) (by decide)), if_neg (show ¬ w = 11 from swne hw (k := 11) (by decide) (by decide)), if_neg (show ¬ w = 12 from swne hw (k := 12) (by decide) (by decide)), if_neg (show ¬ w = 13 from swne hw (k := 13) (by decide) (by decide)), if_neg (show ¬ w = 14 from swne hw (k := 14) (by decide) (by decide))]; exact ⟨rfl, e, Sm.rf⟩)
  rcases (show k = 0 ∨ k = 1 ∨ k = 2 ∨ k = 3 ∨ k = 4 ∨ k = 5 ∨ k = 6 ∨ k = 7 ∨ k = 8 ∨ k = 9 ∨ k = 10 ∨ k = 11 ∨ k = 12 ∨ k = 13 ∨ k = 14 by omega) with q | q | q | q | q | q | q | q | q | q | q | q | q | q | q <;> subst q
  ·
    refine aw_tabIn hX 76 dX10_count_1 (by decide) (by decide) rfl (by decide) ?_
    refine aw_aload_n hX dX10_count_76 rfl ?_
    refine gt_X10_7 hX dX10_count_77 (by assumption) (by exact rfl) ?_
    refine aw_iload_n hX dX10_count_80 rfl ?_
    refine aw_ialdN hX (0) (by assumption) rfl (by decide) (by first | decide | assumption) dX10_count_81 ?_
    exact aw_iret hX rfl rfl rfl rfl dX10_count_82 (by rw [fCount, if_pos (show nI 0 = 0 from rfl)]; exact ⟨congrArg (fun z => some (Value.int z)) (r1.1.trans r1.2.1.symm), e, Sm.rf⟩)
  ·
    refine aw_tabIn hX 76 dX10_count_1 (by decide) (by decide) rfl (by decide) ?_
    refine aw_aload_n hX dX10_count_76 rfl ?_
    refine gt_X10_7 hX dX10_count_77 (by assumption) (by exact rfl) ?_
    refine aw_iload_n hX dX10_count_80 rfl ?_
    refine aw_ialdN hX (1) (by assumption) rfl (by decide) (by first | decide | assumption) dX10_count_81 ?_
    exact aw_iret hX rfl rfl rfl rfl dX10_count_82 (by rw [fCount, if_neg (show ¬ nI 1 = 0 by decide), if_pos (show nI 1 = 1 from rfl)]; exact ⟨congrArg (fun z => some (Value.int z)) (r2 0 (by decide)), e, Sm.rf⟩)
  ·
    refine aw_tabIn hX 76 dX10_count_1 (by decide) (by decide) rfl (by decide) ?_
    refine aw_aload_n hX dX10_count_76 rfl ?_
    refine gt_X10_7 hX dX10_count_77 (by assumption) (by exact rfl) ?_
    refine aw_iload_n hX dX10_count_80 rfl ?_
    refine aw_ialdN hX (2) (by assumption) rfl (by decide) (by first | decide | assumption) dX10_count_81 ?_
    exact aw_iret hX rfl rfl rfl rfl dX10_count_82 (by rw [fCount, if_neg (show ¬ nI 2 = 0 by decide), if_neg (show ¬ nI 2 = 1 by decide), if_pos (show nI 2 = 2 from rfl)]; exact ⟨congrArg (fun z => some (Value.int z)) (r2 1 (by decide)), e, Sm.rf⟩)
  ·
    refine aw_tabIn hX 76 dX10_count_1 (by decide) (by decide) rfl (by decide) ?_
    refine aw_aload_n hX dX10_count_76 rfl ?_
    refine gt_X10_7 hX dX10_count_77 (by assumption) (by exact rfl) ?_
    refine aw_iload_n hX dX10_count_80 rfl ?_
    refine aw_ialdN hX (3) (by assumption) rfl (by decide) (by first | decide | assumption) dX10_count_81 ?_
    exact aw_iret hX rfl rfl rfl rfl dX10_count_82 (by rw [fCount, if_neg (show ¬ nI 3 = 0 by decide), if_neg (show ¬ nI 3 = 1 by decide), if_neg (show ¬ nI 3 = 2 by decide), if_pos (show nI 3 = 3 from rfl)]; exact ⟨congrArg (fun z => some (Value.int z)) (r2 2 (by decide)), e, Sm.rf⟩)
  ·
    refine aw_tabIn hX 76 dX10_count_1 (by decide) (by decide) rfl (by decide) ?_
    refine aw_aload_n hX dX10_count_76 rfl ?_
    refine gt_X10_7 hX dX10_count_77 (by assumption) (by exact rfl) ?_
    refine aw_iload_n hX dX10_count_80 rfl ?_
    refine aw_ialdN hX (4) (by assumption) rfl (by decide) (by first | decide | assumption) dX10_count_81 ?_
    exact aw_iret hX rfl rfl rfl rfl dX10_count_82 (by rw [fCount, if_neg (show ¬ nI 4 = 0 by decide), if_neg (show ¬ nI 4 = 1 by decide), if_neg (show ¬ nI 4 = 2 by decide), if_neg (show ¬ nI 4 = 3 by decide), if_pos (show nI 4 = 4 from rfl)]; exact ⟨congrArg (fun z => some (Value.int z)) (r3), e, Sm.rf⟩)
  ·
    refine aw_tabIn hX 83 dX10_count_1 (by decide) (by decide) rfl (by decide) ?_
    refine aw_aload_n hX dX10_count_83 rfl ?_
    refine aw_callVp hX RX10 rfl (tX10_dueMany _ _ _ g1 R1 hZ hB) rfl mf_X10_dueMany mi_X10_dueMany ms_X10_dueMany kl_X10_145 (by assumption) rfl rfl (by decide) (Nat.le_of_ble_eq_true rfl) dX10_count_84 (by decide) ?_
    exact aw_iret hX rfl rfl rfl rfl dX10_count_87 (by rw [fCount, if_neg (show ¬ nI 5 = 0 by decide), if_neg (show ¬ nI 5 = 1 by decide), if_neg (show ¬ nI 5 = 2 by decide), if_neg (show ¬ nI 5 = 3 by decide), if_neg (show ¬ nI 5 = 4 by decide), if_pos (show nI 5 = 5 from rfl)]; exact ⟨rfl, e, Sm.rf⟩)
  ·
    refine aw_tabIn hX 88 dX10_count_1 (by decide) (by decide) rfl (by decide) ?_
    refine aw_aload_n hX dX10_count_88 rfl ?_
    refine aw_bipush hX (89) dX10_count_89 (by decide) ?_
    refine aw_callVp hX RX10 rfl (tX10_bitsOf _ _ _ g1 R1 (b := 89) (by decide) (f := B.1.1.2.2.2.1) (fun c hc => ⟨(r5 c hc).2.2.1, (hB c hc).2.2.1⟩) (fun c h1 h2 => (hZ c h1 h2).2.2.1)) rfl mf_X10_bitsOf mi_X10_bitsOf ms_X10_bitsOf kl_X10_154 (by assumption) rfl rfl (by decide) (Nat.le_of_ble_eq_true rfl) dX10_count_91 (by decide) ?_
    exact aw_iret hX rfl rfl rfl rfl dX10_count_94 (by rw [fCount, if_neg (show ¬ nI 6 = 0 by decide), if_neg (show ¬ nI 6 = 1 by decide), if_neg (show ¬ nI 6 = 2 by decide), if_neg (show ¬ nI 6 = 3 by decide), if_neg (show ¬ nI 6 = 4 by decide), if_neg (show ¬ nI 6 = 5 by decide), if_pos (show nI 6 = 6 from rfl)]; exact ⟨rfl, e, Sm.rf⟩)
  ·
    refine aw_tabIn hX 95 dX10_count_1 (by decide) (by decide) rfl (by decide) ?_
    refine aw_aload_n hX dX10_count_95 rfl ?_
    refine aw_sipush hX (129) dX10_count_96 (by decide) ?_
    refine aw_callVp hX RX10 rfl (tX10_bitsOf _ _ _ g1 R1 (b := 129) (by decide) (f := B.1.1.2.2.2.2.1) (fun c hc => ⟨(r5 c hc).2.2.2, (hB c hc).2.2.2⟩) (fun c h1 h2 => (hZ c h1 h2).2.2.2)) rfl mf_X10_bitsOf mi_X10_bitsOf ms_X10_bitsOf kl_X10_154 (by assumption) rfl rfl (by decide) (Nat.le_of_ble_eq_true rfl) dX10_count_99 (by decide) ?_
    exact aw_iret hX rfl rfl rfl rfl dX10_count_102 (by rw [fCount, if_neg (show ¬ nI 7 = 0 by decide), if_neg (show ¬ nI 7 = 1 by decide), if_neg (show ¬ nI 7 = 2 by decide), if_neg (show ¬ nI 7 = 3 by decide), if_neg (show ¬ nI 7 = 4 by decide), if_neg (show ¬ nI 7 = 5 by decide), if_neg (show ¬ nI 7 = 6 by decide), if_pos (show nI 7 = 7 from rfl)]; exact ⟨rfl, e, Sm.rf⟩)
  ·
    refine aw_tabIn hX 103 dX10_count_1 (by decide) (by decide) rfl (by decide) ?_
    refine aw_aload_n hX dX10_count_103 rfl ?_
    refine aw_callVp hX RX10 rfl (tX10_offMany _ _ _ g1 R1 hZ hB) rfl mf_X10_offMany mi_X10_offMany ms_X10_offMany kl_X10_157 (by assumption) rfl rfl (by decide) (Nat.le_of_ble_eq_true rfl) dX10_count_104 (by decide) ?_
    exact aw_iret hX rfl rfl rfl rfl dX10_count_107 (by rw [fCount, if_neg (show ¬ nI 8 = 0 by decide), if_neg (show ¬ nI 8 = 1 by decide), if_neg (show ¬ nI 8 = 2 by decide), if_neg (show ¬ nI 8 = 3 by decide), if_neg (show ¬ nI 8 = 4 by decide), if_neg (show ¬ nI 8 = 5 by decide), if_neg (show ¬ nI 8 = 6 by decide), if_neg (show ¬ nI 8 = 7 by decide), if_pos (show nI 8 = 8 from rfl)]; exact ⟨rfl, e, Sm.rf⟩)
  ·
    refine aw_tabIn hX 108 dX10_count_1 (by decide) (by decide) rfl (by decide) ?_
    refine aw_aload_n hX dX10_count_108 rfl ?_
    refine gt_X10_7 hX dX10_count_109 (by assumption) (by exact rfl) ?_
    refine aw_iconst hX (5) dX10_count_112 (by decide) ?_
    refine aw_iload_n hX dX10_count_113 rfl ?_
    refine aw_iadd hX dX10_count_114 ?_
    refine aw_bipush hX (9) dX10_count_115 (by decide) ?_
    refine aw_isub hX dX10_count_117 ?_
    refine aw_ialdN hX (5) (by assumption) (by decide) (by decide) (by first | decide | assumption) dX10_count_118 ?_
    exact aw_iret hX rfl rfl rfl rfl dX10_count_119 (by rw [fCount, if_neg (show ¬ nI 9 = 0 by decide), if_neg (show ¬ nI 9 = 1 by decide), if_neg (show ¬ nI 9 = 2 by decide), if_neg (show ¬ nI 9 = 3 by decide), if_neg (show ¬ nI 9 = 4 by decide), if_neg (show ¬ nI 9 = 5 by decide), if_neg (show ¬ nI 9 = 6 by decide), if_neg (show ¬ nI 9 = 7 by decide), if_neg (show ¬ nI 9 = 8 by decide), if_pos (show nI 9 = 9 from rfl)]; exact ⟨congrArg (fun z => some (Value.int z)) (r4.1), e, Sm.rf⟩)
  ·
    refine aw_tabIn hX 108 dX10_count_1 (by decide) (by decide) rfl (by decide) ?_
    refine aw_aload_n hX dX10_count_108 rfl ?_
    refine gt_X10_7 hX dX10_count_109 (by assumption) (by exact rfl) ?_
    refine aw_iconst hX (5) dX10_count_112 (by decide) ?_
    refine aw_iload_n hX dX10_count_113 rfl ?_
    refine aw_iadd hX dX10_count_114 ?_
    refine aw_bipush hX (9) dX10_count_115 (by decide) ?_
    refine aw_isub hX dX10_count_117 ?_
    refine aw_ialdN hX (6) (by assumption) (by decide) (by decide) (by first | decide | assumption) dX10_count_118 ?_
    exact aw_iret hX rfl rfl rfl rfl dX10_count_119 (by rw [fCount, if_neg (show ¬ nI 10 = 0 by decide), if_neg (show ¬ nI 10 = 1 by decide), if_neg (show ¬ nI 10 = 2 by decide), if_neg (show ¬ nI 10 = 3 by decide), if_neg (show ¬ nI 10 = 4 by decide), if_neg (show ¬ nI 10 = 5 by decide), if_neg (show ¬ nI 10 = 6 by decide), if_neg (show ¬ nI 10 = 7 by decide), if_neg (show ¬ nI 10 = 8 by decide), if_neg (show ¬ nI 10 = 9 by decide), if_pos (show nI 10 = 10 from rfl)]; exact ⟨congrArg (fun z => some (Value.int z)) (r4.2.1), e, Sm.rf⟩)
  ·
    refine aw_tabIn hX 108 dX10_count_1 (by decide) (by decide) rfl (by decide) ?_
    refine aw_aload_n hX dX10_count_108 rfl ?_
    refine gt_X10_7 hX dX10_count_109 (by assumption) (by exact rfl) ?_
    refine aw_iconst hX (5) dX10_count_112 (by decide) ?_
    refine aw_iload_n hX dX10_count_113 rfl ?_
    refine aw_iadd hX dX10_count_114 ?_
    refine aw_bipush hX (9) dX10_count_115 (by decide) ?_
    refine aw_isub hX dX10_count_117 ?_
    refine aw_ialdN hX (7) (by assumption) (by decide) (by decide) (by first | decide | assumption) dX10_count_118 ?_
    exact aw_iret hX rfl rfl rfl rfl dX10_count_119 (by rw [fCount, if_neg (show ¬ nI 11 = 0 by decide), if_neg (show ¬ nI 11 = 1 by decide), if_neg (show ¬ nI 11 = 2 by decide), if_neg (show ¬ nI 11 = 3 by decide), if_neg (show ¬ nI 11 = 4 by decide), if_neg (show ¬ nI 11 = 5 by decide), if_neg (show ¬ nI 11 = 6 by decide), if_neg (show ¬ nI 11 = 7 by decide), if_neg (show ¬ nI 11 = 8 by decide), if_neg (show ¬ nI 11 = 9 by decide), if_neg (show ¬ nI 11 = 10 by decide), if_pos (show nI 11 = 11 from rfl)]; exact ⟨congrArg (fun z => some (Value.int z)) (r4.2.2.1), e, Sm.rf⟩)
  ·
    refine aw_tabIn hX 108 dX10_count_1 (by decide) (by decide) rfl (by decide) ?_
    refine aw_aload_n hX dX10_count_108 rfl ?_
    refine gt_X10_7 hX dX10_count_109 (by assumption) (by exact rfl) ?_
    refine aw_iconst hX (5) dX10_count_112 (by decide) ?_
    refine aw_iload_n hX dX10_count_113 rfl ?_
    refine aw_iadd hX dX10_count_114 ?_
    refine aw_bipush hX (9) dX10_count_115 (by decide) ?_
    refine aw_isub hX dX10_count_117 ?_
    refine aw_ialdN hX (8) (by assumption) (by decide) (by decide) (by first | decide | assumption) dX10_count_118 ?_
    exact aw_iret hX rfl rfl rfl rfl dX10_count_119 (by rw [fCount, if_neg (show ¬ nI 12 = 0 by decide), if_neg (show ¬ nI 12 = 1 by decide), if_neg (show ¬ nI 12 = 2 by decide), if_neg (show ¬ nI 12 = 3 by decide), if_neg (show ¬ nI 12 = 4 by decide), if_neg (show ¬ nI 12 = 5 by decide), if_neg (show ¬ nI 12 = 6 by decide), if_neg (show ¬ nI 12 = 7 by decide), if_neg (show ¬ nI 12 = 8 by decide), if_neg (show ¬ nI 12 = 9 by decide), if_neg (show ¬ nI 12 = 10 by decide), if_neg (show ¬ nI 12 = 11 by decide), if_pos (show nI 12 = 12 from rfl)]; exact ⟨congrArg (fun z => some (Value.int z)) (r4.2.2.2), e, Sm.rf⟩)
  ·
    refine aw_tabIn hX 120 dX10_count_1 (by decide) (by decide) rfl (by decide) ?_
    refine aw_aload_n hX dX10_count_120 rfl ?_
    refine gt_X10_113 hX dX10_count_121 (by assumption) (by exact rfl) ?_
    exact aw_iret hX rfl rfl rfl rfl dX10_count_124 (by rw [fCount, if_neg (show ¬ nI 13 = 0 by decide), if_neg (show ¬ nI 13 = 1 by decide), if_neg (show ¬ nI 13 = 2 by decide), if_neg (show ¬ nI 13 = 3 by decide), if_neg (show ¬ nI 13 = 4 by decide), if_neg (show ¬ nI 13 = 5 by decide), if_neg (show ¬ nI 13 = 6 by decide), if_neg (show ¬ nI 13 = 7 by decide), if_neg (show ¬ nI 13 = 8 by decide), if_neg (show ¬ nI 13 = 9 by decide), if_neg (show ¬ nI 13 = 10 by decide), if_neg (show ¬ nI 13 = 11 by decide), if_neg (show ¬ nI 13 = 12 by decide), if_pos (show nI 13 = 13 from rfl)]; exact ⟨rfl, e, Sm.rf⟩)
  ·
    refine aw_tabIn hX 125 dX10_count_1 (by decide) (by decide) rfl (by decide) ?_
    refine aw_aload_n hX dX10_count_125 rfl ?_
    refine gt_X10_50 hX dX10_count_126 (by assumption) (by exact rfl) ?_
    exact aw_iret hX rfl rfl rfl rfl dX10_count_129 (by rw [fCount, if_neg (show ¬ nI 14 = 0 by decide), if_neg (show ¬ nI 14 = 1 by decide), if_neg (show ¬ nI 14 = 2 by decide), if_neg (show ¬ nI 14 = 3 by decide), if_neg (show ¬ nI 14 = 4 by decide), if_neg (show ¬ nI 14 = 5 by decide), if_neg (show ¬ nI 14 = 6 by decide), if_neg (show ¬ nI 14 = 7 by decide), if_neg (show ¬ nI 14 = 8 by decide), if_neg (show ¬ nI 14 = 9 by decide), if_neg (show ¬ nI 14 = 10 by decide), if_neg (show ¬ nI 14 = 11 by decide), if_neg (show ¬ nI 14 = 12 by decide), if_neg (show ¬ nI 14 = 13 by decide), if_pos (show nI 14 = 14 from rfl)]; exact ⟨rfl, e, Sm.rf⟩)
end REF5
