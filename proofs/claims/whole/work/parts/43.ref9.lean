/-! the reference: letters and messages -/
theorem le4 (r : Int32) : r ≤ 4 ↔ r < 5 := by
  rw [Int32.le_iff_toInt_le, Int32.lt_iff_toInt_lt, show (4 : Int32).toInt = 4 by decide, show (5 : Int32).toInt = 5 by decide]
  omega
theorem RI.scr {s s' : IF} {v : PV} {W P o : Nat} (H : RI s v W P o) {S : SV} (e : ∀ k, k < 4 ∨ (4 < k ∧ k < 449) ∨ 709 ≤ k → s' k = s k) (e4 : s' 4 = nI S.2.2.2.2) (hS : WS S) (hB : SB S) (h7 : ∀ l, l < 26 → s' (449 + 6 * l) = nI (S.2.1 l) ∧ ∀ i, i < S.2.1 l → s' (449 + 6 * l + 1 + i) = S.1 (l * 5 + i)) (h8 : ∀ m, m < S.2.2.2.2 → s' (605 + 13 * m) = nI (S.2.2.2.1 m) ∧ ∀ i, i < S.2.2.2.1 m → s' (605 + 13 * m + 1 + i) = nI (S.2.2.1 (m * 12 + i))) : RI s' (v.1, v.2.1, S, v.2.2.2) W P o := by
  obtain ⟨⟨⟨r1, r1a⟩, r2, r3, ⟨r4, r5, r6, r7⟩, r8, r9, r10, r11, r12⟩, ⟨a1, a2, a3, a4, a5, a6⟩, -, hZ⟩ := H
  refine ⟨⟨⟨(e _ (by omega)).trans r1, r1a⟩, fun k hk => (e _ (by omega)).trans (r2 k hk), e4, ⟨(e _ (by omega)).trans r4, (e _ (by omega)).trans r5, (e _ (by omega)).trans r6, (e _ (by omega)).trans r7⟩, fun c hc => ?_, fun c r hc hr => (e _ (by omega)).trans (r9 c r hc hr), h7, h8, fun k hk hT => (e _ (by omega)).trans (r12 k hk hT)⟩, ⟨a1, a2, hS, a4, a5, a6⟩, hB, hZ⟩
  obtain ⟨q1, q2, q3, q4⟩ := r8 c hc
  exact ⟨(e _ (by omega)).trans q1, (e _ (by omega)).trans q2, (e _ (by omega)).trans q3, (e _ (by omega)).trans q4⟩
/-- a message more -/
theorem RI.msg {s s' : IF} {v : PV} {W P o : Nat} (H : RI s v W P o) {S : SV} {L : Nat} (hK : v.2.2.1.2.2.2.2 < 8) (k1 : S.1 = v.2.2.1.1) (k2 : S.2.1 = v.2.2.1.2.1) (k3 : S.2.2.2.2 = v.2.2.1.2.2.2.2 + 1) (k4 : ∀ m, m < v.2.2.1.2.2.2.2 → S.2.2.2.1 m = v.2.2.1.2.2.2.1 m) (k5 : ∀ m i, m < v.2.2.1.2.2.2.2 → i < 12 → S.2.2.1 (m * 12 + i) = v.2.2.1.2.2.1 (m * 12 + i)) (k6 : S.2.2.2.1 v.2.2.1.2.2.2.2 = L) (k7 : 1 ≤ L ∧ L ≤ 12) (k8 : ∀ i, i < L → S.2.2.1 (v.2.2.1.2.2.2.2 * 12 + i) ≤ 26)
    (e : ∀ k, k < 4 ∨ (4 < k ∧ k < 605 + 13 * v.2.2.1.2.2.2.2) ∨ 709 ≤ k → s' k = s k) (e4 : s' 4 = nI (v.2.2.1.2.2.2.2 + 1)) (e5 : s' (605 + 13 * v.2.2.1.2.2.2.2) = nI L) (e6 : ∀ i, i < L → s' (605 + 13 * v.2.2.1.2.2.2.2 + 1 + i) = nI (S.2.2.1 (v.2.2.1.2.2.2.2 * 12 + i))) : RI s' (v.1, v.2.1, S, v.2.2.2) W P o := by
  obtain ⟨b1, b2, b3⟩ := H.2.1.2.2.1
  have h7 := H.1.2.2.2.2.2.2.1
  have h8 := H.1.2.2.2.2.2.2.2.1
  refine H.scr (fun k hk => e k (by omega)) (by rw [k3]; exact e4) ⟨by rw [k3]; omega, by rw [k2]; exact b2, fun m hm => ?_⟩ (fun i => by rw [k1]; exact H.2.2.1 i) (fun l hl => ?_) (fun m hm => ?_)
  · rw [k3] at hm
    by_cases q : m = v.2.2.1.2.2.2.2
    · subst q
      rw [k6]
      exact ⟨k7.1, k7.2, k8⟩
    · obtain ⟨c1, c2, c3⟩ := b3 m (by omega)
      rw [k4 m (by omega)]
      exact ⟨c1, c2, fun i hi => by rw [k5 m i (by omega) (by omega)]; exact c3 i hi⟩
  · rw [k1, k2]
    obtain ⟨q1, q2⟩ := h7 l hl
    have h5 := b2 l hl
    exact ⟨(e _ (by omega)).trans q1, fun i hi => (e _ (by omega)).trans (q2 i hi)⟩
  · rw [k3] at hm
    by_cases q : m = v.2.2.1.2.2.2.2
    · subst q
      rw [k6]
      exact ⟨e5, e6⟩
    · obtain ⟨q1, q2⟩ := h8 m (by omega)
      obtain ⟨c1, c2, c3⟩ := b3 m (by omega)
      rw [k4 m (by omega)]
      exact ⟨(e _ (by omega)).trans q1, fun i hi => (e _ (by omega)).trans ((q2 i hi).trans (by rw [k5 m i (by omega) (by omega)]))⟩
section REF9
variable {h : HP} {y : Nat} {B : FV} {W P o : Nat} {s : IF} {v : PV}
theorem tX10_setColumn (l : Launch) (E : EV) (n : Nat) (H : HR h y B W P o) (a i b : Int32) : MX10_setColumn l E n h [.ref y, .int a, .int i, .int b] (PM y h (fSetColumn B a i b)) := by
  have e := H
  obtain ⟨s, q⟩ := H
  obtain ⟨pa, sp, om, g1, g2, g3, g4, g5, g6, g7⟩ := id q
  obtain ⟨e0, e1⟩ := id g1
  refine AM.intro mf_X10_setColumn (by simp [Value.category]) (Nat.le_of_ble_eq_true rfl) (fun X hl hE hnm hX => ?_)
  subst hl
  subst hE
  show AW X _ _ 0 0 0 [some (.ref y), some (.int a), some (.int i), some (.int b), none] []
  refine aw_iload_n hX dX10_setColumn_0 rfl ?_
  refine aw_iconst hX (0) dX10_setColumn_1 (by decide) ?_
  refine aw_bipush hX (25) dX10_setColumn_2 (by decide) ?_
  refine aw_callSp hX RX10 rfl (tX10_in _ _ _ _ a 0 25) rfl mf_X10_in mt_X10_in kl_X10_96 rfl (by decide) (Nat.le_of_ble_eq_true rfl) dX10_setColumn_4 (by decide) ?_
  refine aw_if_eq hX 46 dX10_setColumn_7 (by decide) (fun c_7 => ?_) (fun c_7 => ?_)
  · refine aw_sipush hX (-1001) dX10_setColumn_46 (by decide) ?_
    exact aw_iret hX rfl rfl rfl rfl dX10_setColumn_49 (by rw [fSetColumn, if_neg (fun q => bI_eq0.mp c_7 ⟨q.1.1, (le25 a).mpr q.1.2⟩)]; exact ⟨rfl, ⟨_, _, _, e⟩, Sm.rf⟩)
  · refine aw_iload_n hX dX10_setColumn_10 rfl ?_
    refine aw_if_lt hX 46 dX10_setColumn_11 (by decide) (fun c_11 => ?_) (fun c_11 => ?_)
    · refine aw_sipush hX (-1001) dX10_setColumn_46 (by decide) ?_
      exact aw_iret hX rfl rfl rfl rfl dX10_setColumn_49 (by rw [fSetColumn, if_neg (fun q => Int32.not_le.mpr c_11 q.2.2.1.1)]; exact ⟨rfl, ⟨_, _, _, e⟩, Sm.rf⟩)
    · refine aw_iload_n hX dX10_setColumn_14 rfl ?_
      refine aw_iconst hX (4) dX10_setColumn_15 (by decide) ?_
      refine aw_icmp_gt hX 46 dX10_setColumn_16 (by decide) (fun c_16 => ?_) (fun c_16 => ?_)
      · refine aw_sipush hX (-1001) dX10_setColumn_46 (by decide) ?_
        exact aw_iret hX rfl rfl rfl rfl dX10_setColumn_49 (by rw [fSetColumn, if_neg (fun q => Int32.not_le.mpr c_16 ((le4 i).mpr q.2.2.1.2))]; exact ⟨rfl, ⟨_, _, _, e⟩, Sm.rf⟩)
      · have hv := Decidable.not_not.mp (fun q => c_7 (bI_eq0.mpr q))
        obtain ⟨k, hk, rfl⟩ := rng 26 (by decide) hv.1 ((le25 a).mp hv.2)
        have hkc : (nI k).toNatClampNeg = k := nI_clamp (by omega)
        obtain ⟨r1, r2⟩ := g5.1.2.2.2.2.2.2.1 k hk
        have hw5 : (BS B).2.1 k ≤ 5 := g5.2.1.2.2.1.2.1 k hk
        refine aw_iload_n hX dX10_setColumn_19 rfl ?_
        refine aw_aload_n hX dX10_setColumn_20 rfl ?_
        refine gt_X10_7 hX dX10_setColumn_21 (by assumption) (by exact rfl) ?_
        refine aw_sipush hX (449) dX10_setColumn_24 (by decide) ?_
        refine aw_bipush hX (6) dX10_setColumn_27 (by decide) ?_
        refine aw_iload_n hX dX10_setColumn_29 rfl ?_
        refine aw_imul hX dX10_setColumn_30 ?_
        refine aw_iadd hX dX10_setColumn_31 ?_
        refine aw_ialdN hX (449 + 6 * k) (by assumption) (ix_l k) (by omega) (by first | decide | assumption) dX10_setColumn_32 ?_
        rw [r1]
        refine aw_icmp_gt hX 46 dX10_setColumn_33 (by decide) (fun c_33 => ?_) (fun c_33 => ?_)
        · refine aw_sipush hX (-1001) dX10_setColumn_46 (by decide) ?_
          exact aw_iret hX rfl rfl rfl rfl dX10_setColumn_49 (by rw [fSetColumn, if_neg (fun q => Int32.not_le.mpr c_33 (by have z := q.2.2.2; rw [hkc] at z; exact z))]; exact ⟨rfl, ⟨_, _, _, e⟩, Sm.rf⟩)
        · refine aw_iload_n hX dX10_setColumn_36 rfl ?_
          refine aw_iconst hX (0) dX10_setColumn_37 (by decide) ?_
          refine aw_bipush hX (127) dX10_setColumn_38 (by decide) ?_
          refine aw_callSp hX RX10 rfl (tX10_in _ _ _ _ b 0 127) rfl mf_X10_in mt_X10_in kl_X10_96 rfl (by decide) (Nat.le_of_ble_eq_true rfl) dX10_setColumn_40 (by decide) ?_
          refine aw_if_ne hX 50 dX10_setColumn_43 (by decide) (fun c_43 => ?_) (fun c_43 => ?_)
          · have hb := Decidable.not_not.mp (fun q => c_43 (bI_eq0.mpr q))
            have hi1 := Int32.not_lt.mp c_11
            have hi2 := (le4 i).mp (Int32.not_lt.mp c_16)
            have hi3 := Int32.not_lt.mp c_33
            obtain ⟨j, hj, rfl⟩ := rng 5 (by decide) hi1 hi2
            obtain ⟨t, ht, rfl⟩ := rng 128 (by decide) hb.1 (Int32.lt_of_le_of_lt hb.2 (by decide))
            have hjc : (nI j).toNatClampNeg = j := nI_clamp (by omega)
            rw [fSetColumn, hkc, hjc, if_pos ⟨⟨hv.1, (le25 _).mp hv.2⟩, hb, ⟨hi1, hi2⟩, hi3⟩] at hX
            have hjw : j ≤ (BS B).2.1 k := (nI_leI (by omega) (by omega)).mp hi3
            refine aw_aload_n hX dX10_setColumn_50 rfl ?_
            refine aw_callV0 hX RX10 rfl (tX10_hold _ _ _ q) rfl mf_X10_hold mi_X10_hold ms_X10_hold kl_X10_100 (by assumption) rfl rfl (by decide) (Nat.le_of_ble_eq_true rfl) dX10_setColumn_51 (by decide) (fun v_51 h_51 p_51 => ?_)
            obtain ⟨rfl, q, sm⟩ := p_51
            obtain ⟨ps, ty, sp2, om2, g1⟩ := q.n
            obtain ⟨e0, e1⟩ := id g1
            refine aw_sipush hX (449) dX10_setColumn_54 (by decide) ?_
            refine aw_bipush hX (6) dX10_setColumn_57 (by decide) ?_
            refine aw_iload_n hX dX10_setColumn_59 rfl ?_
            refine aw_imul hX dX10_setColumn_60 ?_
            refine aw_iadd hX dX10_setColumn_61 ?_
            rw [ix_l k]
            refine aw_istore hX dX10_setColumn_62 (Nat.le_of_ble_eq_true rfl) ?_
            refine aw_aload_n hX dX10_setColumn_64 rfl ?_
            refine gt_X10_7 hX dX10_setColumn_65 (by assumption) (by exact rfl) ?_
            refine aw_iload hX dX10_setColumn_68 rfl ?_
            refine aw_dup2 hX dX10_setColumn_70 rfl rfl ?_
            refine aw_ialdN hX (449 + 6 * k) (by assumption) rfl (by omega) (by first | decide | assumption) dX10_setColumn_71 ?_
            rw [r1]
            refine aw_iload_n hX dX10_setColumn_72 rfl ?_
            refine aw_aload_n hX dX10_setColumn_73 rfl ?_
            refine gt_X10_7 hX dX10_setColumn_74 (by assumption) (by exact rfl) ?_
            refine aw_iload hX dX10_setColumn_77 rfl ?_
            refine aw_ialdN hX (449 + 6 * k) (by assumption) rfl (by omega) (by first | decide | assumption) dX10_setColumn_79 ?_
            rw [r1]
            refine aw_icmp_ne hX 87 dX10_setColumn_80 (by decide) (fun c_80 => ?_) (fun c_80 => ?_)
            · have n_80 : ¬ j = (BS B).2.1 k := fun q => c_80 ((nI_eq (a := j) (b := (BS B).2.1 k) (by omega) (by omega)).mpr q)
              refine aw_iconst hX (0) dX10_setColumn_87 (by decide) ?_
              refine aw_iadd hX dX10_setColumn_88 ?_
              refine AW.top (y := nI (max ((BS B).2.1 k) (j + 1))) (by first | exact (nI_1 _).trans (congrArg nI (show (BS B).2.1 k + 1 = max ((BS B).2.1 k) (j + 1) by omega)) | exact (Int32.add_zero _).trans (congrArg nI (show (BS B).2.1 k = max ((BS B).2.1 k) (j + 1) by omega))) ?_
              refine aw_iastN hX (449 + 6 * k) (by assumption) rfl (by omega) (by first | decide | assumption) dX10_setColumn_89 ?_
              have q := q.put (upd s (449 + 6 * k) (nI (max ((BS B).2.1 k) (j + 1))))
              have sm := sm.set (a := y + 1) (c := cI 729 (upd s (449 + 6 * k) (nI (max ((BS B).2.1 k) (j + 1))))) (by omega) (by omega)
              obtain ⟨ps, ty, sp2, om2, g1⟩ := q.n
              obtain ⟨e0, e1⟩ := id g1
              refine aw_aload_n hX dX10_setColumn_90 rfl ?_
              refine gt_X10_7 hX dX10_setColumn_91 (by assumption) (by exact rfl) ?_
              refine aw_iload hX dX10_setColumn_94 rfl ?_
              refine aw_iconst hX (1) dX10_setColumn_96 (by decide) ?_
              refine aw_iadd hX dX10_setColumn_97 ?_
              rw [nI_1]
              refine aw_iload_n hX dX10_setColumn_98 rfl ?_
              refine aw_iadd hX dX10_setColumn_99 ?_
              refine aw_iload_n hX dX10_setColumn_100 rfl ?_
              refine aw_iastN hX (449 + 6 * k + 1 + j) (by assumption) (nI_add _ _) (by omega) (by first | decide | assumption) dX10_setColumn_101 ?_
              have q := q.put (upd (upd s (449 + 6 * k) (nI (max ((BS B).2.1 k) (j + 1)))) (449 + 6 * k + 1 + j) (nI t))
              have sm := sm.set (a := y + 1) (c := cI 729 (upd (upd s (449 + 6 * k) (nI (max ((BS B).2.1 k) (j + 1)))) (449 + 6 * k + 1 + j) (nI t))) (by omega) (by omega)
              obtain ⟨ps, ty, sp2, om2, g1⟩ := q.n
              obtain ⟨e0, e1⟩ := id g1
              refine aw_aload_n hX dX10_setColumn_102 rfl ?_
              refine aw_aload_n hX dX10_setColumn_103 rfl ?_
              refine gt_X10_7 hX dX10_setColumn_104 (by assumption) (by exact rfl) ?_
              refine aw_iload hX dX10_setColumn_107 rfl ?_
              refine aw_ialdN hX (449 + 6 * k) (by assumption) rfl (by omega) (by first | decide | assumption) dX10_setColumn_109 ?_
              rw [show upd (upd s (449 + 6 * k) (nI (max ((BS B).2.1 k) (j + 1)))) (449 + 6 * k + 1 + j) (nI t) (449 + 6 * k) = nI (max ((BS B).2.1 k) (j + 1)) from (pk_un (by omega)).trans pk_us]
              refine aw_callV0 hX RX10 rfl (tX10_ends _ _ _ q (g5.col hk hj hjw ht) _) rfl mf_X10_ends mi_X10_ends ms_X10_ends kl_X10_103 (by assumption) rfl rfl (by decide) (Nat.le_of_ble_eq_true rfl) dX10_setColumn_110 (by decide) (fun v_110 h_110 p_110 => ?_)
              obtain ⟨rfl, q, s2⟩ := p_110
              exact aw_iret hX rfl rfl rfl rfl dX10_setColumn_113 (by exact ⟨rfl, ⟨_, _, _, q⟩, sm.tr s2 (Nat.le_refl _) (Nat.le_refl _)⟩)
            · have n_80 : j = (BS B).2.1 k := (nI_eq (a := j) (b := (BS B).2.1 k) (by omega) (by omega)).mp c_80
              refine aw_iconst hX (1) dX10_setColumn_83 (by decide) ?_
              refine aw_goto hX 88 dX10_setColumn_84 (by decide) ?_
              refine aw_iadd hX dX10_setColumn_88 ?_
              refine AW.top (y := nI (max ((BS B).2.1 k) (j + 1))) (by first | exact (nI_1 _).trans (congrArg nI (show (BS B).2.1 k + 1 = max ((BS B).2.1 k) (j + 1) by omega)) | exact (Int32.add_zero _).trans (congrArg nI (show (BS B).2.1 k = max ((BS B).2.1 k) (j + 1) by omega))) ?_
              refine aw_iastN hX (449 + 6 * k) (by assumption) rfl (by omega) (by first | decide | assumption) dX10_setColumn_89 ?_
              have q := q.put (upd s (449 + 6 * k) (nI (max ((BS B).2.1 k) (j + 1))))
              have sm := sm.set (a := y + 1) (c := cI 729 (upd s (449 + 6 * k) (nI (max ((BS B).2.1 k) (j + 1))))) (by omega) (by omega)
              obtain ⟨ps, ty, sp2, om2, g1⟩ := q.n
              obtain ⟨e0, e1⟩ := id g1
              refine aw_aload_n hX dX10_setColumn_90 rfl ?_
              refine gt_X10_7 hX dX10_setColumn_91 (by assumption) (by exact rfl) ?_
              refine aw_iload hX dX10_setColumn_94 rfl ?_
              refine aw_iconst hX (1) dX10_setColumn_96 (by decide) ?_
              refine aw_iadd hX dX10_setColumn_97 ?_
              rw [nI_1]
              refine aw_iload_n hX dX10_setColumn_98 rfl ?_
              refine aw_iadd hX dX10_setColumn_99 ?_
              refine aw_iload_n hX dX10_setColumn_100 rfl ?_
              refine aw_iastN hX (449 + 6 * k + 1 + j) (by assumption) (nI_add _ _) (by omega) (by first | decide | assumption) dX10_setColumn_101 ?_
              have q := q.put (upd (upd s (449 + 6 * k) (nI (max ((BS B).2.1 k) (j + 1)))) (449 + 6 * k + 1 + j) (nI t))
              have sm := sm.set (a := y + 1) (c := cI 729 (upd (upd s (449 + 6 * k) (nI (max ((BS B).2.1 k) (j + 1)))) (449 + 6 * k + 1 + j) (nI t))) (by omega) (by omega)
              obtain ⟨ps, ty, sp2, om2, g1⟩ := q.n
              obtain ⟨e0, e1⟩ := id g1
              refine aw_aload_n hX dX10_setColumn_102 rfl ?_
              refine aw_aload_n hX dX10_setColumn_103 rfl ?_
              refine gt_X10_7 hX dX10_setColumn_104 (by assumption) (by exact rfl) ?_
              refine aw_iload hX dX10_setColumn_107 rfl ?_
              refine aw_ialdN hX (449 + 6 * k) (by assumption) rfl (by omega) (by first | decide | assumption) dX10_setColumn_109 ?_
              rw [show upd (upd s (449 + 6 * k) (nI (max ((BS B).2.1 k) (j + 1)))) (449 + 6 * k + 1 + j) (nI t) (449 + 6 * k) = nI (max ((BS B).2.1 k) (j + 1)) from (pk_un (by omega)).trans pk_us]
              refine aw_callV0 hX RX10 rfl (tX10_ends _ _ _ q (g5.col hk hj hjw ht) _) rfl mf_X10_ends mi_X10_ends ms_X10_ends kl_X10_103 (by assumption) rfl rfl (by decide) (Nat.le_of_ble_eq_true rfl) dX10_setColumn_110 (by decide) (fun v_110 h_110 p_110 => ?_)
              obtain ⟨rfl, q, s2⟩ := p_110
              exact aw_iret hX rfl rfl rfl rfl dX10_setColumn_113 (by exact ⟨rfl, ⟨_, _, _, q⟩, sm.tr s2 (Nat.le_refl _) (Nat.le_refl _)⟩)
          · refine aw_sipush hX (-1001) dX10_setColumn_46 (by decide) ?_
            exact aw_iret hX rfl rfl rfl rfl dX10_setColumn_49 (by rw [fSetColumn, if_neg (fun q => bI_eq0.mp c_43 q.2.1)]; exact ⟨rfl, ⟨_, _, _, e⟩, Sm.rf⟩)
end REF9
