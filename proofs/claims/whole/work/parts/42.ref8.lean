/-! the reference: numbers, columns, undo -/
theorem leF_0 : leF 0 = 2 ∧ leF 1 = 0 ∧ leF 2 = 1 := ⟨rfl, rfl, rfl⟩
abbrev nuOk (w y : Int32) : Prop := (0 ≤ w ∧ w < 3) ∧ leF w.toNatClampNeg ≤ y ∧ y ≤ moF w.toNatClampNeg
section REF8
variable {h : HP} {y : Nat} {B : FV} {W P o : Nat} {s : IF} {v : PV}
theorem tX10_isNumber (l : Launch) (E : EV) (n : Nat) (h : HP) (w x : Int32) : MX10_isNumber l E n h [.int w, .int x] (PR (.int (bI (nuOk w x))) h) := by
  refine AM.intro mf_X10_isNumber (by simp [Value.category]) (Nat.le_of_ble_eq_true rfl) (fun X hl hE hnm hX => ?_)
  subst hl
  subst hE
  show AW X _ _ 0 0 0 [some (.int w), some (.int x)] []
  refine aw_iload_n hX dX10_isNumber_0 rfl ?_
  skip
  rcases sw_cases 2 w (by decide) with hw | ⟨k, hk, rfl⟩
  ·
    refine aw_tabOut hX 52 dX10_isNumber_1 hw (by decide) ?_
    refine aw_iconst hX (0) dX10_isNumber_52 (by decide) ?_
    exact aw_zret hX rfl (by first | exact Or.inl rfl | exact Or.inr rfl | assumption) rfl rfl rfl dX10_isNumber_53 (by exact prF (fun q => by have q1 := Int32.le_iff_toInt_le.mp q.1.1; have q2 := Int32.lt_iff_toInt_lt.mp q.1.2; rw [show (0 : Int32).toInt = 0 by decide] at q1; rw [show (3 : Int32).toInt = 3 by decide] at q2; omega))
  rcases (show k = 0 ∨ k = 1 ∨ k = 2 by omega) with q | q | q <;> subst q
  ·
    refine aw_tabIn hX 28 dX10_isNumber_1 (by decide) (by decide) rfl (by decide) ?_
    refine aw_iload_n hX dX10_isNumber_28 rfl ?_
    refine aw_iconst hX (2) dX10_isNumber_29 (by decide) ?_
    refine aw_bipush hX (50) dX10_isNumber_30 (by decide) ?_
    refine aw_callSp hX RX10 rfl (tX10_in _ _ _ _ x 2 50) rfl mf_X10_in mt_X10_in kl_X10_96 rfl (by decide) (Nat.le_of_ble_eq_true rfl) dX10_isNumber_32 (by decide) ?_
    have hz := bI_01 (2 ≤ x ∧ x ≤ 50)
    exact aw_zret hX rfl (by first | exact Or.inl rfl | exact Or.inr rfl | assumption) rfl rfl rfl dX10_isNumber_35 (by exact ⟨congrArg (fun z => some (Value.int z)) (bI_iff ⟨fun q => ⟨by decide, q⟩, fun q => q.2⟩), rfl⟩)
  ·
    refine aw_tabIn hX 36 dX10_isNumber_1 (by decide) (by decide) rfl (by decide) ?_
    refine aw_iload_n hX dX10_isNumber_36 rfl ?_
    refine aw_iconst hX (0) dX10_isNumber_37 (by decide) ?_
    refine aw_iconst hX (2) dX10_isNumber_38 (by decide) ?_
    refine aw_callSp hX RX10 rfl (tX10_in _ _ _ _ x 0 2) rfl mf_X10_in mt_X10_in kl_X10_96 rfl (by decide) (Nat.le_of_ble_eq_true rfl) dX10_isNumber_39 (by decide) ?_
    have hz := bI_01 (0 ≤ x ∧ x ≤ 2)
    exact aw_zret hX rfl (by first | exact Or.inl rfl | exact Or.inr rfl | assumption) rfl rfl rfl dX10_isNumber_42 (by exact ⟨congrArg (fun z => some (Value.int z)) (bI_iff ⟨fun q => ⟨by decide, q⟩, fun q => q.2⟩), rfl⟩)
  ·
    refine aw_tabIn hX 43 dX10_isNumber_1 (by decide) (by decide) rfl (by decide) ?_
    refine aw_iload_n hX dX10_isNumber_43 rfl ?_
    refine aw_iconst hX (1) dX10_isNumber_44 (by decide) ?_
    refine aw_sipush hX (200) dX10_isNumber_45 (by decide) ?_
    refine aw_callSp hX RX10 rfl (tX10_in _ _ _ _ x 1 200) rfl mf_X10_in mt_X10_in kl_X10_96 rfl (by decide) (Nat.le_of_ble_eq_true rfl) dX10_isNumber_48 (by decide) ?_
    have hz := bI_01 (1 ≤ x ∧ x ≤ 200)
    exact aw_zret hX rfl (by first | exact Or.inl rfl | exact Or.inr rfl | assumption) rfl rfl rfl dX10_isNumber_51 (by exact ⟨congrArg (fun z => some (Value.int z)) (bI_iff ⟨fun q => ⟨by decide, q⟩, fun q => q.2⟩), rfl⟩)
theorem RI.num (H : RI s v W P o) {w : Nat} (hw : w < 3) {x : Int32} (h1 : leF w ≤ x) (h2 : x ≤ moF w) : ∃ P' o', RI (upd s (1 + w) x) (v.1, v.2.1, v.2.2.1, upd v.2.2.2 w x) W P' o' := by
  obtain ⟨R, ⟨a1, a2, a3, ⟨a4, a5⟩, ⟨a6, a7⟩, a8⟩, hS, hZ⟩ := H
  have R' := R.num a3 hw x
  rcases (show w = 0 ∨ w = 1 ∨ w = 2 by omega) with q | q | q <;> subst q
  · obtain ⟨k, hk, rfl⟩ := rng 51 (by decide) (x := x) (Int32.le_trans (by decide) h1) (Int32.lt_of_le_of_lt h2 (by decide))
    have k2 : 2 ≤ k := (nI_leI (a := 2) (b := k) (by decide) (by omega)).mp h1
    exact ⟨k, o, R', ⟨a1, a2, a3, ⟨rfl, k2, by omega⟩, ⟨a6, a7⟩, a8⟩, hS, hZ⟩
  · obtain ⟨k, hk, rfl⟩ := rng 3 (by decide) (x := x) h1 (Int32.lt_of_le_of_lt h2 (by decide))
    exact ⟨P, k, R', ⟨a1, a2, a3, ⟨a4, a5⟩, ⟨rfl, by omega⟩, a8⟩, hS, hZ⟩
  · exact ⟨P, o, R', ⟨a1, a2, a3, ⟨a4, a5⟩, ⟨a6, a7⟩, a8⟩, hS, hZ⟩
theorem tX10_setNumber (l : Launch) (E : EV) (n : Nat) (H : HR h y B W P o) (w x : Int32) : MX10_setNumber l E n h [.ref y, .int w, .int x] (PM y h (fSetNumber B w x)) := by
  have e := H
  obtain ⟨s, q⟩ := H
  obtain ⟨pa, sp, om, g1, g2, g3, g4, g5, g6, g7⟩ := id q
  obtain ⟨e0, e1⟩ := id g1
  refine AM.intro mf_X10_setNumber (by simp [Value.category]) (Nat.le_of_ble_eq_true rfl) (fun X hl hE hnm hX => ?_)
  subst hl
  subst hE
  show AW X _ _ 0 0 0 [some (.ref y), some (.int w), some (.int x), none] []
  refine aw_iload_n hX dX10_setNumber_0 rfl ?_
  refine aw_iload_n hX dX10_setNumber_1 rfl ?_
  refine aw_callSp hX RX10 rfl (tX10_isNumber _ _ _ _ w x) rfl mf_X10_isNumber mt_X10_isNumber kl_X10_106 rfl (by decide) (Nat.le_of_ble_eq_true rfl) dX10_setNumber_2 (by decide) ?_
  refine aw_if_ne hX 12 dX10_setNumber_5 (by decide) (fun c_5 => ?_) (fun c_5 => ?_)
  · have hv := Decidable.not_not.mp (fun q => c_5 (bI_eq0.mpr q))
    rw [fSetNumber, if_pos hv] at hX
    obtain ⟨k, hk, rfl⟩ := rng 3 (by decide) hv.1.1 hv.1.2
    have hkc : (nI k).toNatClampNeg = k := nI_clamp (by omega)
    rw [hkc] at hX
    have hx1 : leF k ≤ x := by have q := hv.2.1; rw [hkc] at q; exact q
    have hx2 : x ≤ moF k := by have q := hv.2.2; rw [hkc] at q; exact q
    obtain ⟨P', o', g6⟩ := g5.num hk hx1 hx2
    refine aw_aload_n hX dX10_setNumber_12 rfl ?_
    refine aw_callV0 hX RX10 rfl (tX10_hold _ _ _ q) rfl mf_X10_hold mi_X10_hold ms_X10_hold kl_X10_100 (by assumption) rfl rfl (by decide) (Nat.le_of_ble_eq_true rfl) dX10_setNumber_13 (by decide) (fun v_13 h_13 p_13 => ?_)
    obtain ⟨rfl, q, sm⟩ := p_13
    obtain ⟨ps, ty, sp2, om2, g1⟩ := q.n
    obtain ⟨e0, e1⟩ := id g1
    refine aw_aload_n hX dX10_setNumber_16 rfl ?_
    refine gt_X10_7 hX dX10_setNumber_17 (by assumption) (by exact rfl) ?_
    refine aw_iconst hX (1) dX10_setNumber_20 (by decide) ?_
    refine aw_iload_n hX dX10_setNumber_21 rfl ?_
    refine aw_iadd hX dX10_setNumber_22 ?_
    refine aw_ialdN hX (1 + k) (by assumption) (nI_add 1 k) (by omega) (by first | decide | assumption) dX10_setNumber_23 ?_
    rw [g5.1.2.1 k hk]
    refine aw_istore_n hX dX10_setNumber_24 (Nat.le_of_ble_eq_true rfl) ?_
    refine aw_aload_n hX dX10_setNumber_25 rfl ?_
    refine gt_X10_7 hX dX10_setNumber_26 (by assumption) (by exact rfl) ?_
    refine aw_iconst hX (1) dX10_setNumber_29 (by decide) ?_
    refine aw_iload_n hX dX10_setNumber_30 rfl ?_
    refine aw_iadd hX dX10_setNumber_31 ?_
    refine aw_iload_n hX dX10_setNumber_32 rfl ?_
    refine aw_iastN hX (1 + k) (by assumption) (nI_add 1 k) (by omega) (by first | decide | assumption) dX10_setNumber_33 ?_
    have q := q.put (upd s (1 + k) x)
    have sm := sm.set (a := y + 1) (c := cI 729 (upd s (1 + k) x)) (by omega) (by omega)
    obtain ⟨ps, ty, sp2, om2, g1⟩ := q.n
    obtain ⟨e0, e1⟩ := id g1
    refine aw_aload_n hX dX10_setNumber_34 rfl ?_
    refine aw_iload_n hX dX10_setNumber_35 rfl ?_
    refine aw_callV0 hX RX10 rfl (tX10_ends _ _ _ q g6 _) rfl mf_X10_ends mi_X10_ends ms_X10_ends kl_X10_103 (by assumption) rfl rfl (by decide) (Nat.le_of_ble_eq_true rfl) dX10_setNumber_36 (by decide) (fun v_36 h_36 p_36 => ?_)
    obtain ⟨rfl, q, s2⟩ := p_36
    exact aw_iret hX rfl rfl rfl rfl dX10_setNumber_39 (by exact ⟨rfl, ⟨_, _, _, q⟩, sm.tr s2 (Nat.le_refl _) (Nat.le_refl _)⟩)
  · refine aw_sipush hX (-1001) dX10_setNumber_8 (by decide) ?_
    exact aw_iret hX rfl rfl rfl rfl dX10_setNumber_11 (by rw [fSetNumber, if_neg (bI_eq0.mp c_5)]; exact ⟨rfl, ⟨_, _, _, e⟩, Sm.rf⟩)
theorem tX10_undo (l : Launch) (E : EV) (n : Nat) (H : HR h y B W P o) : MX10_undo l E n h [.ref y] (PM y h (fUndo B)) := by
  have e := H
  obtain ⟨s, pa, sp, om, g1, g2, g3, g4, g5, g6, g7⟩ := H
  obtain ⟨e0, e1⟩ := id g1
  refine AM.intro mf_X10_undo (by simp [Value.category]) (Nat.le_of_ble_eq_true rfl) (fun X hl hE hnm hX => ?_)
  subst hl
  subst hE
  show AW X _ _ 0 0 0 [some (.ref y), none] []
  have loop : ∀ (g z j : Nat) (s' : IF) (hh : HP), B.2.1.length = z + 1 → j ≤ 729 → 729 - j < g → HN hh y s' z B.2.2.2 sp om → SCR hh y → hh (y + 2) = some (cI 4374 pa) → hh (y + 5) = some (cI 120 (nF B.2.2.1)) → Sm y (y + 13) h hh → (∀ k, k < j → s' k = pa (729 * z + k)) → AW X n hh 0 0 23 [some (.ref y), some (.int (nI j))] [] := by
    intro g
    induction g with
    | zero => intro z j s' hh i1 h1 h2; omega
    | succ g ih =>
      intro z j s' hh i1 h1 h2 g1 g2 g3 g4 sm h3
      obtain ⟨e0, e1⟩ := id g1
      refine aw_iload_n hX dX10_undo_23 rfl ?_
      refine aw_sipush hX (729) dX10_undo_24 (by decide) ?_
      refine aw_icmp_ge hX 57 dX10_undo_27 (by decide) (fun c_27 => ?_) (fun c_27 => ?_)
      · have n_27 : 729 ≤ j := (nI_leI (a := 729) (b := j) (by omega) (by omega)).mp c_27
        obtain ⟨w, W', P', o', k1, k2⟩ := g6 z (by omega)
        have hl : B.2.1.getLastD B.1 = w := by rw [List.getLastD_eq_getLast?, List.getLast?_eq_getElem?, show B.2.1.length - 1 = z by omega, k1]; rfl
        refine aw_aload_n hX dX10_undo_57 rfl ?_
        refine gt_X10_50 hX dX10_undo_58 (by assumption) (by exact rfl) ?_
        exact aw_iret hX rfl rfl rfl rfl dX10_undo_61 (by rw [fUndo, if_neg (by omega), show B.2.1.length - 1 = z by omega, hl]; exact ⟨rfl, ⟨W', P', o', s', pa, sp, om, by rw [List.length_dropLast, show B.2.1.length - 1 = z by omega]; exact g1, g2, g3, g4, RI_ext k2 (fun k hk => h3 k (by omega)), fun i hi => by rw [List.length_dropLast] at hi; obtain ⟨w2, W2, P2, o2, m1, m2⟩ := g6 i (by omega); exact ⟨w2, W2, P2, o2, by rw [List.getElem?_dropLast, if_pos hi]; exact m1, m2⟩, by rw [List.length_dropLast]; omega⟩, sm⟩)
      · have n_27 : ¬ 729 ≤ j := fun q => c_27 ((nI_leI (a := 729) (b := j) (by omega) (by omega)).mpr q)
        refine aw_aload_n hX dX10_undo_30 rfl ?_
        refine gt_X10_7 hX dX10_undo_31 (by assumption) (by exact rfl) ?_
        refine aw_iload_n hX dX10_undo_34 rfl ?_
        refine aw_aload_n hX dX10_undo_35 rfl ?_
        refine gt_X10_13 hX dX10_undo_36 (by assumption) (by exact rfl) ?_
        refine aw_sipush hX (729) dX10_undo_39 (by decide) ?_
        refine aw_aload_n hX dX10_undo_42 rfl ?_
        refine gt_X10_50 hX dX10_undo_43 (by assumption) (by exact rfl) ?_
        refine aw_imul hX dX10_undo_46 ?_
        refine aw_iload_n hX dX10_undo_47 rfl ?_
        refine aw_iadd hX dX10_undo_48 ?_
        refine AW.top (y := nI (729 * z + j)) (by rw [show (729 : Int32) = nI 729 from rfl, pk_mul, nI_add]) ?_
        refine aw_ialdN hX (729 * z + j) (by assumption) rfl (by omega) (by first | decide | assumption) dX10_undo_49 ?_
        refine aw_iastN hX (j) (by assumption) rfl (by omega) (by first | decide | assumption) dX10_undo_50 ?_
        refine aw_iinc hX (nI (j + 1)) dX10_undo_51 rfl (nI_1 j) ?_
        refine aw_goto hX 23 dX10_undo_54 (by decide) ?_
        exact ih z (j + 1) (upd s' j (pa (729 * z + j))) _ i1 (by omega) (by omega) ⟨(hset_ne _ _ (by omega)).trans e0, hset_eq _ _ _⟩ (g2.low _ (by omega)) ((hset_ne _ _ (by omega)).trans g3) ((hset_ne _ _ (by omega)).trans g4) (sm.set (by omega) (by omega)) (upd_lo2 (f := fun k => pa (729 * z + k)) h3)
  refine aw_aload_n hX dX10_undo_0 rfl ?_
  refine gt_X10_50 hX dX10_undo_1 (by assumption) (by exact rfl) ?_
  refine aw_if_ne hX 11 dX10_undo_4 (by decide) (fun c_4 => ?_) (fun c_4 => ?_)
  · have n_4 : ¬ B.2.1.length = 0 := fun q => c_4 ((nI_eq (a := B.2.1.length) (b := 0) (by omega) (by omega)).mpr q)
    obtain ⟨z, hz⟩ : ∃ z, B.2.1.length = z + 1 := ⟨B.2.1.length - 1, by omega⟩
    rw [hz] at e0
    refine aw_aload_n hX dX10_undo_11 rfl ?_
    refine aw_dup hX dX10_undo_12 rfl ?_
    refine gt_X10_50 hX dX10_undo_13 (by assumption) (by exact rfl) ?_
    refine aw_iconst hX (1) dX10_undo_16 (by decide) ?_
    refine aw_isub hX dX10_undo_17 ?_
    rw [show nI (z + 1) - 1 = nI z from pk_sub (b := 1) (by omega)]
    refine pt_X10_50 hX dX10_undo_18 (by assumption) (Nat.le_of_ble_eq_true rfl) ?_
    dsimp only [List.set_cons_zero, List.set_cons_succ]
    refine aw_iconst hX (0) dX10_undo_21 (by decide) ?_
    refine aw_istore_n hX dX10_undo_22 (Nat.le_of_ble_eq_true rfl) ?_
    exact loop 730 z 0 s _ hz (by decide) (by decide) ⟨hset_eq _ _ _, (hset_ne _ _ (by omega)).trans e1⟩ (g2.low _ (by omega)) ((hset_ne _ _ (by omega)).trans g3) ((hset_ne _ _ (by omega)).trans g4) (Sm.rf.set (by omega) (by omega)) (fun k hk => absurd hk (by omega))
  · have n_4 : B.2.1.length = 0 := (nI_eq (a := B.2.1.length) (b := 0) (by omega) (by omega)).mp c_4
    refine aw_sipush hX (-1002) dX10_undo_7 (by decide) ?_
    exact aw_iret hX rfl rfl rfl rfl dX10_undo_10 (by rw [fUndo, if_pos n_4]; exact ⟨rfl, ⟨_, _, _, e⟩, Sm.rf⟩)
theorem RI.col (H : RI s v W P o) {l i k : Nat} (hl : l < 26) (hi : i < 5) (hw : i ≤ v.2.2.1.2.1 l) (hk : k < 128) : RI (upd (upd s (449 + 6 * l) (nI (max (v.2.2.1.2.1 l) (i + 1)))) (449 + 6 * l + 1 + i) (nI k)) (v.1, v.2.1, (upd v.2.2.1.1 (l * 5 + i) (nI k), updN v.2.2.1.2.1 l (max (v.2.2.1.2.1 l) (i + 1)), v.2.2.1.2.2), v.2.2.2) W P o := by
  obtain ⟨⟨⟨r1, r1a⟩, r2, r3, ⟨r4, r5, r6, r7⟩, r8, r9, r10, r11, r12⟩, ⟨a1, a2, ⟨b1, b2, b3⟩, a4, a5, a6⟩, hS, hZ⟩ := H
  have hm5 : max (v.2.2.1.2.1 l) (i + 1) ≤ 5 := by
    have := b2 l hl
    omega
  have U : ∀ q, ¬ q = 449 + 6 * l → ¬ q = 449 + 6 * l + 1 + i → upd (upd s (449 + 6 * l) (nI (max (v.2.2.1.2.1 l) (i + 1)))) (449 + 6 * l + 1 + i) (nI k) q = s q := fun q h1 h2 => (pk_un h2).trans (pk_un h1)
  refine ⟨⟨⟨(U _ (by omega) (by omega)).trans r1, r1a⟩, fun z hz => (U _ (by omega) (by omega)).trans (r2 z hz), (U _ (by omega) (by omega)).trans r3, ⟨(U _ (by omega) (by omega)).trans r4, (U _ (by omega) (by omega)).trans r5, (U _ (by omega) (by omega)).trans r6, (U _ (by omega) (by omega)).trans r7⟩, fun c hc => ?_, fun c r hc hr => (U _ (by omega) (by omega)).trans (r9 c r hc hr), fun z hz => ?_, fun m hm => ?_, fun z hz hT => (U _ (by omega) (by omega)).trans (r12 z hz hT)⟩, ⟨a1, a2, ⟨b1, fun c hc => ?_, b3⟩, a4, a5, a6⟩, fun z => ?_, hZ⟩
  · obtain ⟨q1, q2, q3, q4⟩ := r8 c hc
    exact ⟨(U _ (by omega) (by omega)).trans q1, (U _ (by omega) (by omega)).trans q2, (U _ (by omega) (by omega)).trans q3, (U _ (by omega) (by omega)).trans q4⟩
  · obtain ⟨q1, q2⟩ := r10 z hz
    have h5 := b2 z hz
    by_cases e : z = l
    · subst e
      refine ⟨(pk_un (by omega)).trans (pk_us.trans (congrArg nI (show max (v.2.2.1.2.1 z) (i + 1) = updN v.2.2.1.2.1 z (max (v.2.2.1.2.1 z) (i + 1)) z by rw [updN, if_pos rfl]))), fun j hj => ?_⟩
      have hj' : j < max (v.2.2.1.2.1 z) (i + 1) := by
        have q : j < updN v.2.2.1.2.1 z (max (v.2.2.1.2.1 z) (i + 1)) z := hj
        rw [updN, if_pos rfl] at q
        exact q
      by_cases e2 : j = i
      · subst e2
        exact pk_us.trans pk_us.symm
      · exact (U _ (by omega) (by omega)).trans ((q2 j (by omega)).trans (pk_un (by omega)).symm)
    · refine ⟨(U _ (by omega) (by omega)).trans (q1.trans (congrArg nI (show v.2.2.1.2.1 z = updN v.2.2.1.2.1 l (max (v.2.2.1.2.1 l) (i + 1)) z by rw [updN, if_neg e]))), fun j hj => ?_⟩
      have hj' : j < v.2.2.1.2.1 z := by
        have q : j < updN v.2.2.1.2.1 l (max (v.2.2.1.2.1 l) (i + 1)) z := hj
        rw [updN, if_neg e] at q
        exact q
      exact (U _ (by omega) (by omega)).trans ((q2 j hj').trans (pk_un (by omega)).symm)
  · obtain ⟨q1, q2⟩ := r11 m hm
    have h12 := (b3 m hm).2.1
    have hm' : m < v.2.2.1.2.2.2.2 := hm
    exact ⟨(U _ (by omega) (by omega)).trans q1, fun j hj => (U _ (by omega) (by omega)).trans (q2 j hj)⟩
  · show updN v.2.2.1.2.1 l (max (v.2.2.1.2.1 l) (i + 1)) c ≤ 5
    rw [updN]
    split
    · exact hm5
    · exact b2 c hc
  · show B7 (upd v.2.2.1.1 (l * 5 + i) (nI k) z)
    by_cases e : z = l * 5 + i
    · subst e
      rw [pk_us]
      exact B7_nI k hk
    · rw [pk_un e]
      exact hS z
end REF8
