/-! the reference: messages -/
theorem uN_s {f : Nat → Nat} {j x : Nat} : updN f j x j = x := if_pos rfl
theorem uN_n {f : Nat → Nat} {j x k : Nat} (h : ¬ k = j) : updN f j x k = f k := if_neg h
theorem uN_2 (f : Nat → Nat) (j x z : Nat) : updN (updN f j x) j z = updN f j z := by
  funext k
  by_cases e : k = j
  · subst e
    rw [uN_s, uN_s]
  · rw [uN_n e, uN_n e, uN_n e]
theorem add1_eq (S : SV) (k : Nat) : addC (stM S) k = (S.1, S.2.1, updN S.2.2.1 (S.2.2.2.2 * 12) k, updN S.2.2.2.1 S.2.2.2.2 1, S.2.2.2.2 + 1) := by
  show (S.1, S.2.1, updN S.2.2.1 (S.2.2.2.2 * 12 + updN S.2.2.2.1 S.2.2.2.2 0 S.2.2.2.2) k, updN (updN S.2.2.2.1 S.2.2.2.2 0) S.2.2.2.2 (updN S.2.2.2.1 S.2.2.2.2 0 S.2.2.2.2 + 1), S.2.2.2.2 + 1) = _
  rw [uN_2, uN_s]
  rfl
theorem add2_eq (S : SV) (k j : Nat) : addC (addC (stM S) k) j = (S.1, S.2.1, updN (updN S.2.2.1 (S.2.2.2.2 * 12) k) (S.2.2.2.2 * 12 + 1) j, updN S.2.2.2.1 S.2.2.2.2 2, S.2.2.2.2 + 1) := by
  rw [add1_eq]
  show (S.1, S.2.1, updN (updN S.2.2.1 (S.2.2.2.2 * 12) k) (S.2.2.2.2 * 12 + updN S.2.2.2.1 S.2.2.2.2 1 S.2.2.2.2) j, updN (updN S.2.2.2.1 S.2.2.2.2 1) S.2.2.2.2 (updN S.2.2.2.1 S.2.2.2.2 1 S.2.2.2.2 + 1), S.2.2.2.2 + 1) = _
  rw [uN_2, uN_s]
theorem m1_nn {b : Int32} (h : -1 ≤ b) (hb : ¬ b = -1) : 0 ≤ b := by
  rw [Int32.le_iff_toInt_le] at h ⊢
  have q2 : ¬ b.toInt = -1 := fun z => hb (Int32.toInt_inj.mp (z.trans (by decide)))
  rw [show (-1 : Int32).toInt = -1 by decide] at h
  rw [show (0 : Int32).toInt = 0 by decide]
  omega
theorem two_ind {p : Nat → Prop} (h0 : p 0) (h1 : p 1) : ∀ i, i < 2 → p i := fun i hi => by
  rcases (show i = 0 ∨ i = 1 by omega) with q | q <;> subst q
  · exact h0
  · exact h1
section REF10
variable {h : HP} {y : Nat} {B : FV} {W P o : Nat} {s : IF} {v : PV}
theorem RI.msg2 {s' : IF} (H : RI s v W P o) {L : Nat} {cr : Nat → Nat} (hK : v.2.2.1.2.2.2.2 < 8) (k5 : ∀ q, q < v.2.2.1.2.2.2.2 * 12 → cr q = v.2.2.1.2.2.1 q) (k7 : 1 ≤ L ∧ L ≤ 12) (k8 : ∀ i, i < L → cr (v.2.2.1.2.2.2.2 * 12 + i) ≤ 26)
    (e : ∀ k, k < 4 ∨ (4 < k ∧ k < 605 + 13 * v.2.2.1.2.2.2.2) ∨ 709 ≤ k → s' k = s k) (e4 : s' 4 = nI (v.2.2.1.2.2.2.2 + 1)) (e5 : s' (605 + 13 * v.2.2.1.2.2.2.2) = nI L) (e6 : ∀ i, i < L → s' (605 + 13 * v.2.2.1.2.2.2.2 + 1 + i) = nI (cr (v.2.2.1.2.2.2.2 * 12 + i))) : RI s' (v.1, v.2.1, (v.2.2.1.1, v.2.2.1.2.1, cr, updN v.2.2.1.2.2.2.1 v.2.2.1.2.2.2.2 L, v.2.2.1.2.2.2.2 + 1), v.2.2.2) W P o :=
  H.msg (S := (v.2.2.1.1, v.2.2.1.2.1, cr, updN v.2.2.1.2.2.2.1 v.2.2.1.2.2.2.2 L, v.2.2.1.2.2.2.2 + 1)) hK rfl rfl rfl (fun m hm => uN_n (by omega)) (fun m i hm hi => k5 _ (by omega)) uN_s k7 k8 e e4 e5 e6
theorem tX10_addMessage (l : Launch) (E : EV) (n : Nat) (H : HR h y B W P o) (a b : Int32) : MX10_addMessage l E n h [.ref y, .int a, .int b] (PM y h (fAddMessage B a b)) := by
  have e := H
  obtain ⟨s, q⟩ := H
  obtain ⟨pa, sp, om, g1, g2, g3, g4, g5, g6, g7⟩ := id q
  obtain ⟨e0, e1⟩ := id g1
  have r3 : s 4 = nI B.1.2.2.1.2.2.2.2 := g5.1.2.2.1
  have hK8 : B.1.2.2.1.2.2.2.2 ≤ 8 := g5.2.1.2.2.1.1
  by_cases hb : b = -1
  · subst hb
    refine AM.intro mf_X10_addMessage (by simp [Value.category]) (Nat.le_of_ble_eq_true rfl) (fun X hl hE hnm hX => ?_)
    subst hl
    subst hE
    show AW X _ _ 0 0 0 [some (.ref y), some (.int a), some (.int (-1)), none] []
    refine aw_iload_n hX dX10_addMessage_0 rfl ?_
    refine aw_iconst hX (0) dX10_addMessage_1 (by decide) ?_
    refine aw_bipush hX (26) dX10_addMessage_2 (by decide) ?_
    refine aw_callSp hX RX10 rfl (tX10_in _ _ _ _ a 0 26) rfl mf_X10_in mt_X10_in kl_X10_96 rfl (by decide) (Nat.le_of_ble_eq_true rfl) dX10_addMessage_4 (by decide) ?_
    refine aw_if_eq hX 20 dX10_addMessage_7 (by decide) (fun c_7 => ?_) (fun c_7 => ?_)
    · refine aw_sipush hX (-1001) dX10_addMessage_20 (by decide) ?_
      exact aw_iret hX rfl rfl rfl rfl dX10_addMessage_23 (by rw [fAddMessage, if_neg (fun q => bI_eq0.mp c_7 q.1)]; exact ⟨rfl, ⟨_, _, _, e⟩, Sm.rf⟩)
    · refine aw_iload_n hX dX10_addMessage_10 rfl ?_
      refine aw_iconst hX (-1) dX10_addMessage_11 (by decide) ?_
      refine aw_bipush hX (26) dX10_addMessage_12 (by decide) ?_
      refine aw_callSp hX RX10 rfl (tX10_in _ _ _ _ (-1) (-1) 26) rfl mf_X10_in mt_X10_in kl_X10_96 rfl (by decide) (Nat.le_of_ble_eq_true rfl) dX10_addMessage_14 (by decide) ?_
      refine aw_if_ne hX 24 dX10_addMessage_17 (by decide) (fun c_17 => ?_) (fun c_17 => ?_)
      · have hv1 := Decidable.not_not.mp (fun q => c_7 (bI_eq0.mpr q))
        have hv2 := Decidable.not_not.mp (fun q => c_17 (bI_eq0.mpr q))
        obtain ⟨k, hk, rfl⟩ := rng 27 (by decide) hv1.1 (Int32.lt_of_le_of_lt hv1.2 (by decide))
        have hkc : (nI k).toNatClampNeg = k := nI_clamp (by omega)
        rw [fAddMessage, if_pos ⟨hv1, hv2⟩, hkc] at hX
        refine aw_aload_n hX dX10_addMessage_24 rfl ?_
        refine gt_X10_7 hX dX10_addMessage_25 (by assumption) (by exact rfl) ?_
        refine aw_iconst hX (4) dX10_addMessage_28 (by decide) ?_
        refine aw_ialdN hX (4) (by assumption) rfl (by decide) (by first | decide | assumption) dX10_addMessage_29 ?_
        rw [r3]
        refine aw_bipush hX (8) dX10_addMessage_30 (by decide) ?_
        refine aw_icmp_ne hX 39 dX10_addMessage_32 (by decide) (fun c_32 => ?_) (fun c_32 => ?_)
        · have n_32 : ¬ B.1.2.2.1.2.2.2.2 = 8 := fun q => c_32 ((nI_eq (a := B.1.2.2.1.2.2.2.2) (b := 8) (by omega) (by omega)).mpr q)
          have hK : B.1.2.2.1.2.2.2.2 < 8 := by omega
          rw [if_pos hK, if_pos rfl, add1_eq] at hX
          refine aw_aload_n hX dX10_addMessage_39 rfl ?_
          refine aw_callV0 hX RX10 rfl (tX10_hold _ _ _ q) rfl mf_X10_hold mi_X10_hold ms_X10_hold kl_X10_100 (by assumption) rfl rfl (by decide) (Nat.le_of_ble_eq_true rfl) dX10_addMessage_40 (by decide) (fun v_40 h_40 p_40 => ?_)
          obtain ⟨rfl, q, sm⟩ := p_40
          obtain ⟨ps, ty, sp2, om2, g1⟩ := q.n
          obtain ⟨e0, e1⟩ := id g1
          refine aw_sipush hX (605) dX10_addMessage_43 (by decide) ?_
          refine aw_bipush hX (13) dX10_addMessage_46 (by decide) ?_
          refine aw_aload_n hX dX10_addMessage_48 rfl ?_
          refine gt_X10_7 hX dX10_addMessage_49 (by assumption) (by exact rfl) ?_
          refine aw_iconst hX (4) dX10_addMessage_52 (by decide) ?_
          refine aw_ialdN hX (4) (by assumption) rfl (by decide) (by first | decide | assumption) dX10_addMessage_53 ?_
          rw [r3]
          refine aw_imul hX dX10_addMessage_54 ?_
          refine aw_iadd hX dX10_addMessage_55 ?_
          rw [ix_m]
          refine aw_istore_n hX dX10_addMessage_56 (Nat.le_of_ble_eq_true rfl) ?_
          refine aw_aload_n hX dX10_addMessage_57 rfl ?_
          refine gt_X10_7 hX dX10_addMessage_58 (by assumption) (by exact rfl) ?_
          refine aw_iload_n hX dX10_addMessage_61 rfl ?_
          refine aw_iload_n hX dX10_addMessage_62 rfl ?_
          refine aw_if_ge hX 70 dX10_addMessage_63 (by decide) (fun c_63 => ?_) (fun c_63 => ?_)
          · exact absurd c_63 (by decide)
          · refine aw_iconst hX (1) dX10_addMessage_66 (by decide) ?_
            refine aw_goto hX 71 dX10_addMessage_67 (by decide) ?_
            refine aw_iastN hX (605 + 13 * B.1.2.2.1.2.2.2.2) (by assumption) rfl (by omega) (by first | decide | assumption) dX10_addMessage_71 ?_
            have q := q.put (upd s (605 + 13 * B.1.2.2.1.2.2.2.2) (nI 1))
            have sm := sm.set (a := y + 1) (c := cI 729 (upd s (605 + 13 * B.1.2.2.1.2.2.2.2) (nI 1))) (by omega) (by omega)
            obtain ⟨ps, ty, sp2, om2, g1⟩ := q.n
            obtain ⟨e0, e1⟩ := id g1
            refine aw_aload_n hX dX10_addMessage_72 rfl ?_
            refine gt_X10_7 hX dX10_addMessage_73 (by assumption) (by exact rfl) ?_
            refine aw_iload_n hX dX10_addMessage_76 rfl ?_
            refine aw_iconst hX (1) dX10_addMessage_77 (by decide) ?_
            refine aw_iadd hX dX10_addMessage_78 ?_
            refine aw_iload_n hX dX10_addMessage_79 rfl ?_
            refine aw_iastN hX (605 + 13 * B.1.2.2.1.2.2.2.2 + 1) (by assumption) (nI_1 _) (by omega) (by first | decide | assumption) dX10_addMessage_80 ?_
            have q := q.put (upd (upd s (605 + 13 * B.1.2.2.1.2.2.2.2) (nI 1)) (605 + 13 * B.1.2.2.1.2.2.2.2 + 1) (nI k))
            have sm := sm.set (a := y + 1) (c := cI 729 (upd (upd s (605 + 13 * B.1.2.2.1.2.2.2.2) (nI 1)) (605 + 13 * B.1.2.2.1.2.2.2.2 + 1) (nI k))) (by omega) (by omega)
            obtain ⟨ps, ty, sp2, om2, g1⟩ := q.n
            obtain ⟨e0, e1⟩ := id g1
            refine aw_aload_n hX dX10_addMessage_81 rfl ?_
            refine gt_X10_7 hX dX10_addMessage_82 (by assumption) (by exact rfl) ?_
            refine aw_iload_n hX dX10_addMessage_85 rfl ?_
            refine aw_iconst hX (2) dX10_addMessage_86 (by decide) ?_
            refine aw_iadd hX dX10_addMessage_87 ?_
            refine aw_iload_n hX dX10_addMessage_88 rfl ?_
            refine aw_if_ge hX 96 dX10_addMessage_89 (by decide) (fun c_89 => ?_) (fun c_89 => ?_)
            · exact absurd c_89 (by decide)
            · refine aw_iconst hX (0) dX10_addMessage_92 (by decide) ?_
              refine aw_goto hX 97 dX10_addMessage_93 (by decide) ?_
              refine aw_iastN hX (605 + 13 * B.1.2.2.1.2.2.2.2 + 2) (by assumption) (nI_add _ 2) (by omega) (by first | decide | assumption) dX10_addMessage_97 ?_
              have q := q.put (upd (upd (upd s (605 + 13 * B.1.2.2.1.2.2.2.2) (nI 1)) (605 + 13 * B.1.2.2.1.2.2.2.2 + 1) (nI k)) (605 + 13 * B.1.2.2.1.2.2.2.2 + 2) (0))
              have sm := sm.set (a := y + 1) (c := cI 729 (upd (upd (upd s (605 + 13 * B.1.2.2.1.2.2.2.2) (nI 1)) (605 + 13 * B.1.2.2.1.2.2.2.2 + 1) (nI k)) (605 + 13 * B.1.2.2.1.2.2.2.2 + 2) (0))) (by omega) (by omega)
              obtain ⟨ps, ty, sp2, om2, g1⟩ := q.n
              obtain ⟨e0, e1⟩ := id g1
              refine aw_aload_n hX dX10_addMessage_98 rfl ?_
              refine gt_X10_7 hX dX10_addMessage_99 (by assumption) (by exact rfl) ?_
              refine aw_iconst hX (4) dX10_addMessage_102 (by decide) ?_
              refine aw_dup2 hX dX10_addMessage_103 rfl rfl ?_
              refine aw_ialdN hX (4) (by assumption) rfl (by decide) (by first | decide | assumption) dX10_addMessage_104 ?_
              rw [show (upd (upd (upd s (605 + 13 * B.1.2.2.1.2.2.2.2) (nI 1)) (605 + 13 * B.1.2.2.1.2.2.2.2 + 1) (nI k)) (605 + 13 * B.1.2.2.1.2.2.2.2 + 2) (0)) 4 = nI B.1.2.2.1.2.2.2.2 from (pk_un (by omega)).trans ((pk_un (by omega)).trans ((pk_un (by omega)).trans r3))]
              refine aw_iconst hX (1) dX10_addMessage_105 (by decide) ?_
              refine aw_iadd hX dX10_addMessage_106 ?_
              rw [nI_1]
              refine aw_iastN hX (4) (by assumption) rfl (by decide) (by first | decide | assumption) dX10_addMessage_107 ?_
              have q := q.put (upd (upd (upd (upd s (605 + 13 * B.1.2.2.1.2.2.2.2) (nI 1)) (605 + 13 * B.1.2.2.1.2.2.2.2 + 1) (nI k)) (605 + 13 * B.1.2.2.1.2.2.2.2 + 2) (0)) 4 (nI (B.1.2.2.1.2.2.2.2 + 1)))
              have sm := sm.set (a := y + 1) (c := cI 729 (upd (upd (upd (upd s (605 + 13 * B.1.2.2.1.2.2.2.2) (nI 1)) (605 + 13 * B.1.2.2.1.2.2.2.2 + 1) (nI k)) (605 + 13 * B.1.2.2.1.2.2.2.2 + 2) (0)) 4 (nI (B.1.2.2.1.2.2.2.2 + 1)))) (by omega) (by omega)
              obtain ⟨ps, ty, sp2, om2, g1⟩ := q.n
              obtain ⟨e0, e1⟩ := id g1
              refine aw_aload_n hX dX10_addMessage_108 rfl ?_
              refine aw_aload_n hX dX10_addMessage_109 rfl ?_
              refine gt_X10_7 hX dX10_addMessage_110 (by assumption) (by exact rfl) ?_
              refine aw_iconst hX (4) dX10_addMessage_113 (by decide) ?_
              refine aw_ialdN hX (4) (by assumption) rfl (by decide) (by first | decide | assumption) dX10_addMessage_114 ?_
              rw [show (upd (upd (upd (upd s (605 + 13 * B.1.2.2.1.2.2.2.2) (nI 1)) (605 + 13 * B.1.2.2.1.2.2.2.2 + 1) (nI k)) (605 + 13 * B.1.2.2.1.2.2.2.2 + 2) (0)) 4 (nI (B.1.2.2.1.2.2.2.2 + 1))) 4 = nI (B.1.2.2.1.2.2.2.2 + 1) from pk_us]
              refine aw_iconst hX (1) dX10_addMessage_115 (by decide) ?_
              refine aw_isub hX dX10_addMessage_116 ?_
              rw [show nI (B.1.2.2.1.2.2.2.2 + 1) - 1 = nI B.1.2.2.1.2.2.2.2 from pk_sub (b := 1) (by omega)]
              refine aw_callV0 hX RX10 rfl (tX10_ends _ _ _ q (g5.msg2 (s' := upd (upd (upd (upd s (605 + 13 * B.1.2.2.1.2.2.2.2) (nI 1)) (605 + 13 * B.1.2.2.1.2.2.2.2 + 1) (nI k)) (605 + 13 * B.1.2.2.1.2.2.2.2 + 2) (0)) 4 (nI (B.1.2.2.1.2.2.2.2 + 1))) (cr := updN (BS B).2.2.1 (B.1.2.2.1.2.2.2.2 * 12) k) (L := 1) hK (fun q hq => uN_n (by omega)) (by decide) (fun i hi => by obtain rfl : i = 0 := Nat.lt_one_iff.mp hi; exact Nat.le_trans (Nat.le_of_eq uN_s) (by omega)) (fun z hz => (pk_un (by omega)).trans ((pk_un (by omega)).trans ((pk_un (by omega)).trans (pk_un (by omega))))) pk_us ((pk_un (by omega)).trans ((pk_un (by omega)).trans ((pk_un (by omega)).trans pk_us))) (fun i hi => by obtain rfl : i = 0 := Nat.lt_one_iff.mp hi; exact (pk_un (by omega)).trans ((pk_un (by omega)).trans (pk_us.trans (congrArg nI uN_s.symm))))) _) rfl mf_X10_ends mi_X10_ends ms_X10_ends kl_X10_103 (by assumption) rfl rfl (by decide) (Nat.le_of_ble_eq_true rfl) dX10_addMessage_117 (by decide) (fun v_117 h_117 p_117 => ?_)
              obtain ⟨rfl, q, s2⟩ := p_117
              exact aw_iret hX rfl rfl rfl rfl dX10_addMessage_120 (by exact ⟨rfl, ⟨_, _, _, q⟩, sm.tr s2 (Nat.le_refl _) (Nat.le_refl _)⟩)
        · have n_32 : B.1.2.2.1.2.2.2.2 = 8 := (nI_eq (a := B.1.2.2.1.2.2.2.2) (b := 8) (by omega) (by omega)).mp c_32
          rw [if_neg (show ¬ B.1.2.2.1.2.2.2.2 < 8 by omega)] at hX
          refine aw_sipush hX (-1003) dX10_addMessage_35 (by decide) ?_
          exact aw_iret hX rfl rfl rfl rfl dX10_addMessage_38 (by exact ⟨rfl, ⟨_, _, _, e⟩, Sm.rf⟩)
      · refine aw_sipush hX (-1001) dX10_addMessage_20 (by decide) ?_
        exact aw_iret hX rfl rfl rfl rfl dX10_addMessage_23 (by rw [fAddMessage, if_neg (fun q => bI_eq0.mp c_17 q.2)]; exact ⟨rfl, ⟨_, _, _, e⟩, Sm.rf⟩)
  · skip
    refine AM.intro mf_X10_addMessage (by simp [Value.category]) (Nat.le_of_ble_eq_true rfl) (fun X hl hE hnm hX => ?_)
    subst hl
    subst hE
    show AW X _ _ 0 0 0 [some (.ref y), some (.int a), some (.int b), none] []
    refine aw_iload_n hX dX10_addMessage_0 rfl ?_
    refine aw_iconst hX (0) dX10_addMessage_1 (by decide) ?_
    refine aw_bipush hX (26) dX10_addMessage_2 (by decide) ?_
    refine aw_callSp hX RX10 rfl (tX10_in _ _ _ _ a 0 26) rfl mf_X10_in mt_X10_in kl_X10_96 rfl (by decide) (Nat.le_of_ble_eq_true rfl) dX10_addMessage_4 (by decide) ?_
    refine aw_if_eq hX 20 dX10_addMessage_7 (by decide) (fun c_7 => ?_) (fun c_7 => ?_)
    · refine aw_sipush hX (-1001) dX10_addMessage_20 (by decide) ?_
      exact aw_iret hX rfl rfl rfl rfl dX10_addMessage_23 (by rw [fAddMessage, if_neg (fun q => bI_eq0.mp c_7 q.1)]; exact ⟨rfl, ⟨_, _, _, e⟩, Sm.rf⟩)
    · refine aw_iload_n hX dX10_addMessage_10 rfl ?_
      refine aw_iconst hX (-1) dX10_addMessage_11 (by decide) ?_
      refine aw_bipush hX (26) dX10_addMessage_12 (by decide) ?_
      refine aw_callSp hX RX10 rfl (tX10_in _ _ _ _ b (-1) 26) rfl mf_X10_in mt_X10_in kl_X10_96 rfl (by decide) (Nat.le_of_ble_eq_true rfl) dX10_addMessage_14 (by decide) ?_
      refine aw_if_ne hX 24 dX10_addMessage_17 (by decide) (fun c_17 => ?_) (fun c_17 => ?_)
      · have hv1 := Decidable.not_not.mp (fun q => c_7 (bI_eq0.mpr q))
        have hv2 := Decidable.not_not.mp (fun q => c_17 (bI_eq0.mpr q))
        obtain ⟨k, hk, rfl⟩ := rng 27 (by decide) hv1.1 (Int32.lt_of_le_of_lt hv1.2 (by decide))
        have hkc : (nI k).toNatClampNeg = k := nI_clamp (by omega)
        rw [fAddMessage, if_pos ⟨hv1, hv2⟩, hkc] at hX
        refine aw_aload_n hX dX10_addMessage_24 rfl ?_
        refine gt_X10_7 hX dX10_addMessage_25 (by assumption) (by exact rfl) ?_
        refine aw_iconst hX (4) dX10_addMessage_28 (by decide) ?_
        refine aw_ialdN hX (4) (by assumption) rfl (by decide) (by first | decide | assumption) dX10_addMessage_29 ?_
        rw [r3]
        refine aw_bipush hX (8) dX10_addMessage_30 (by decide) ?_
        refine aw_icmp_ne hX 39 dX10_addMessage_32 (by decide) (fun c_32 => ?_) (fun c_32 => ?_)
        · have n_32 : ¬ B.1.2.2.1.2.2.2.2 = 8 := fun q => c_32 ((nI_eq (a := B.1.2.2.1.2.2.2.2) (b := 8) (by omega) (by omega)).mpr q)
          have hK : B.1.2.2.1.2.2.2.2 < 8 := by omega
          rw [if_pos hK, if_neg hb, add2_eq] at hX
          have hb0 := m1_nn hv2.1 hb
          obtain ⟨j, hj, rfl⟩ := rng 27 (by decide) hb0 (Int32.lt_of_le_of_lt hv2.2 (by decide))
          have hjc : (nI j).toNatClampNeg = j := nI_clamp (by omega)
          rw [hjc] at hX
          refine aw_aload_n hX dX10_addMessage_39 rfl ?_
          refine aw_callV0 hX RX10 rfl (tX10_hold _ _ _ q) rfl mf_X10_hold mi_X10_hold ms_X10_hold kl_X10_100 (by assumption) rfl rfl (by decide) (Nat.le_of_ble_eq_true rfl) dX10_addMessage_40 (by decide) (fun v_40 h_40 p_40 => ?_)
          obtain ⟨rfl, q, sm⟩ := p_40
          obtain ⟨ps, ty, sp2, om2, g1⟩ := q.n
          obtain ⟨e0, e1⟩ := id g1
          refine aw_sipush hX (605) dX10_addMessage_43 (by decide) ?_
          refine aw_bipush hX (13) dX10_addMessage_46 (by decide) ?_
          refine aw_aload_n hX dX10_addMessage_48 rfl ?_
          refine gt_X10_7 hX dX10_addMessage_49 (by assumption) (by exact rfl) ?_
          refine aw_iconst hX (4) dX10_addMessage_52 (by decide) ?_
          refine aw_ialdN hX (4) (by assumption) rfl (by decide) (by first | decide | assumption) dX10_addMessage_53 ?_
          rw [r3]
          refine aw_imul hX dX10_addMessage_54 ?_
          refine aw_iadd hX dX10_addMessage_55 ?_
          rw [ix_m]
          refine aw_istore_n hX dX10_addMessage_56 (Nat.le_of_ble_eq_true rfl) ?_
          refine aw_aload_n hX dX10_addMessage_57 rfl ?_
          refine gt_X10_7 hX dX10_addMessage_58 (by assumption) (by exact rfl) ?_
          refine aw_iload_n hX dX10_addMessage_61 rfl ?_
          refine aw_iload_n hX dX10_addMessage_62 rfl ?_
          refine aw_if_ge hX 70 dX10_addMessage_63 (by decide) (fun c_63 => ?_) (fun c_63 => ?_)
          · refine aw_iconst hX (2) dX10_addMessage_70 (by decide) ?_
            refine aw_iastN hX (605 + 13 * B.1.2.2.1.2.2.2.2) (by assumption) rfl (by omega) (by first | decide | assumption) dX10_addMessage_71 ?_
            have q := q.put (upd s (605 + 13 * B.1.2.2.1.2.2.2.2) (nI 2))
            have sm := sm.set (a := y + 1) (c := cI 729 (upd s (605 + 13 * B.1.2.2.1.2.2.2.2) (nI 2))) (by omega) (by omega)
            obtain ⟨ps, ty, sp2, om2, g1⟩ := q.n
            obtain ⟨e0, e1⟩ := id g1
            refine aw_aload_n hX dX10_addMessage_72 rfl ?_
            refine gt_X10_7 hX dX10_addMessage_73 (by assumption) (by exact rfl) ?_
            refine aw_iload_n hX dX10_addMessage_76 rfl ?_
            refine aw_iconst hX (1) dX10_addMessage_77 (by decide) ?_
            refine aw_iadd hX dX10_addMessage_78 ?_
            refine aw_iload_n hX dX10_addMessage_79 rfl ?_
            refine aw_iastN hX (605 + 13 * B.1.2.2.1.2.2.2.2 + 1) (by assumption) (nI_1 _) (by omega) (by first | decide | assumption) dX10_addMessage_80 ?_
            have q := q.put (upd (upd s (605 + 13 * B.1.2.2.1.2.2.2.2) (nI 2)) (605 + 13 * B.1.2.2.1.2.2.2.2 + 1) (nI k))
            have sm := sm.set (a := y + 1) (c := cI 729 (upd (upd s (605 + 13 * B.1.2.2.1.2.2.2.2) (nI 2)) (605 + 13 * B.1.2.2.1.2.2.2.2 + 1) (nI k))) (by omega) (by omega)
            obtain ⟨ps, ty, sp2, om2, g1⟩ := q.n
            obtain ⟨e0, e1⟩ := id g1
            refine aw_aload_n hX dX10_addMessage_81 rfl ?_
            refine gt_X10_7 hX dX10_addMessage_82 (by assumption) (by exact rfl) ?_
            refine aw_iload_n hX dX10_addMessage_85 rfl ?_
            refine aw_iconst hX (2) dX10_addMessage_86 (by decide) ?_
            refine aw_iadd hX dX10_addMessage_87 ?_
            refine aw_iload_n hX dX10_addMessage_88 rfl ?_
            refine aw_if_ge hX 96 dX10_addMessage_89 (by decide) (fun c_89 => ?_) (fun c_89 => ?_)
            · refine aw_iload_n hX dX10_addMessage_96 rfl ?_
              refine aw_iastN hX (605 + 13 * B.1.2.2.1.2.2.2.2 + 2) (by assumption) (nI_add _ 2) (by omega) (by first | decide | assumption) dX10_addMessage_97 ?_
              have q := q.put (upd (upd (upd s (605 + 13 * B.1.2.2.1.2.2.2.2) (nI 2)) (605 + 13 * B.1.2.2.1.2.2.2.2 + 1) (nI k)) (605 + 13 * B.1.2.2.1.2.2.2.2 + 2) (nI j))
              have sm := sm.set (a := y + 1) (c := cI 729 (upd (upd (upd s (605 + 13 * B.1.2.2.1.2.2.2.2) (nI 2)) (605 + 13 * B.1.2.2.1.2.2.2.2 + 1) (nI k)) (605 + 13 * B.1.2.2.1.2.2.2.2 + 2) (nI j))) (by omega) (by omega)
              obtain ⟨ps, ty, sp2, om2, g1⟩ := q.n
              obtain ⟨e0, e1⟩ := id g1
              refine aw_aload_n hX dX10_addMessage_98 rfl ?_
              refine gt_X10_7 hX dX10_addMessage_99 (by assumption) (by exact rfl) ?_
              refine aw_iconst hX (4) dX10_addMessage_102 (by decide) ?_
              refine aw_dup2 hX dX10_addMessage_103 rfl rfl ?_
              refine aw_ialdN hX (4) (by assumption) rfl (by decide) (by first | decide | assumption) dX10_addMessage_104 ?_
              rw [show (upd (upd (upd s (605 + 13 * B.1.2.2.1.2.2.2.2) (nI 2)) (605 + 13 * B.1.2.2.1.2.2.2.2 + 1) (nI k)) (605 + 13 * B.1.2.2.1.2.2.2.2 + 2) (nI j)) 4 = nI B.1.2.2.1.2.2.2.2 from (pk_un (by omega)).trans ((pk_un (by omega)).trans ((pk_un (by omega)).trans r3))]
              refine aw_iconst hX (1) dX10_addMessage_105 (by decide) ?_
              refine aw_iadd hX dX10_addMessage_106 ?_
              rw [nI_1]
              refine aw_iastN hX (4) (by assumption) rfl (by decide) (by first | decide | assumption) dX10_addMessage_107 ?_
              have q := q.put (upd (upd (upd (upd s (605 + 13 * B.1.2.2.1.2.2.2.2) (nI 2)) (605 + 13 * B.1.2.2.1.2.2.2.2 + 1) (nI k)) (605 + 13 * B.1.2.2.1.2.2.2.2 + 2) (nI j)) 4 (nI (B.1.2.2.1.2.2.2.2 + 1)))
              have sm := sm.set (a := y + 1) (c := cI 729 (upd (upd (upd (upd s (605 + 13 * B.1.2.2.1.2.2.2.2) (nI 2)) (605 + 13 * B.1.2.2.1.2.2.2.2 + 1) (nI k)) (605 + 13 * B.1.2.2.1.2.2.2.2 + 2) (nI j)) 4 (nI (B.1.2.2.1.2.2.2.2 + 1)))) (by omega) (by omega)
              obtain ⟨ps, ty, sp2, om2, g1⟩ := q.n
              obtain ⟨e0, e1⟩ := id g1
              refine aw_aload_n hX dX10_addMessage_108 rfl ?_
              refine aw_aload_n hX dX10_addMessage_109 rfl ?_
              refine gt_X10_7 hX dX10_addMessage_110 (by assumption) (by exact rfl) ?_
              refine aw_iconst hX (4) dX10_addMessage_113 (by decide) ?_
              refine aw_ialdN hX (4) (by assumption) rfl (by decide) (by first | decide | assumption) dX10_addMessage_114 ?_
              rw [show (upd (upd (upd (upd s (605 + 13 * B.1.2.2.1.2.2.2.2) (nI 2)) (605 + 13 * B.1.2.2.1.2.2.2.2 + 1) (nI k)) (605 + 13 * B.1.2.2.1.2.2.2.2 + 2) (nI j)) 4 (nI (B.1.2.2.1.2.2.2.2 + 1))) 4 = nI (B.1.2.2.1.2.2.2.2 + 1) from pk_us]
              refine aw_iconst hX (1) dX10_addMessage_115 (by decide) ?_
              refine aw_isub hX dX10_addMessage_116 ?_
              rw [show nI (B.1.2.2.1.2.2.2.2 + 1) - 1 = nI B.1.2.2.1.2.2.2.2 from pk_sub (b := 1) (by omega)]
              refine aw_callV0 hX RX10 rfl (tX10_ends _ _ _ q (g5.msg2 (s' := upd (upd (upd (upd s (605 + 13 * B.1.2.2.1.2.2.2.2) (nI 2)) (605 + 13 * B.1.2.2.1.2.2.2.2 + 1) (nI k)) (605 + 13 * B.1.2.2.1.2.2.2.2 + 2) (nI j)) 4 (nI (B.1.2.2.1.2.2.2.2 + 1))) (cr := updN (updN (BS B).2.2.1 (B.1.2.2.1.2.2.2.2 * 12) k) (B.1.2.2.1.2.2.2.2 * 12 + 1) j) (L := 2) hK (fun q hq => (uN_n (by omega)).trans (uN_n (by omega))) (by decide) (two_ind (Nat.le_trans (Nat.le_of_eq ((uN_n (by omega)).trans uN_s)) (by omega)) (Nat.le_trans (Nat.le_of_eq uN_s) (by omega))) (fun z hz => (pk_un (by omega)).trans ((pk_un (by omega)).trans ((pk_un (by omega)).trans (pk_un (by omega))))) pk_us ((pk_un (by omega)).trans ((pk_un (by omega)).trans ((pk_un (by omega)).trans pk_us))) (two_ind ((pk_un (by omega)).trans ((pk_un (by omega)).trans (pk_us.trans (congrArg nI ((uN_n (by omega)).trans uN_s).symm)))) ((pk_un (by omega)).trans (pk_us.trans (congrArg nI uN_s.symm))))) _) rfl mf_X10_ends mi_X10_ends ms_X10_ends kl_X10_103 (by assumption) rfl rfl (by decide) (Nat.le_of_ble_eq_true rfl) dX10_addMessage_117 (by decide) (fun v_117 h_117 p_117 => ?_)
              obtain ⟨rfl, q, s2⟩ := p_117
              exact aw_iret hX rfl rfl rfl rfl dX10_addMessage_120 (by exact ⟨rfl, ⟨_, _, _, q⟩, sm.tr s2 (Nat.le_refl _) (Nat.le_refl _)⟩)
            · exact absurd hb0 c_89
          · exact absurd hb0 c_63
        · have n_32 : B.1.2.2.1.2.2.2.2 = 8 := (nI_eq (a := B.1.2.2.1.2.2.2.2) (b := 8) (by omega) (by omega)).mp c_32
          rw [if_neg (show ¬ B.1.2.2.1.2.2.2.2 < 8 by omega)] at hX
          refine aw_sipush hX (-1003) dX10_addMessage_35 (by decide) ?_
          exact aw_iret hX rfl rfl rfl rfl dX10_addMessage_38 (by exact ⟨rfl, ⟨_, _, _, e⟩, Sm.rf⟩)
      · refine aw_sipush hX (-1001) dX10_addMessage_20 (by decide) ?_
        exact aw_iret hX rfl rfl rfl rfl dX10_addMessage_23 (by rw [fAddMessage, if_neg (fun q => bI_eq0.mp c_17 q.2)]; exact ⟨rfl, ⟨_, _, _, e⟩, Sm.rf⟩)
end REF10
