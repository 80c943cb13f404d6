/-! the reference: changes, 2 -/
section REF7
variable {h : HP} {y : Nat} {B : FV} {W P o : Nat} {s : IF} {v : PV}
theorem HQ.sc (H : HQ h y s B W P o) : SCR h y := by
  obtain ⟨pa, sp, om, a, h1, h2, -⟩ := H
  exact h2
theorem tX10_aims (l : Launch) (E : EV) (n : Nat) (H : HQ h y s B W P o) (R : RI s v W P o) {m w : Nat} (hm : m < v.2.2.1.2.2.2.2) (hw : w ≤ 1) : MX10_aims l E n h [.ref y, .int (nI m), .int (nI w)] (fun r h' => r = none ∧ (∃ s', HQ h' y s' B W P o ∧ RI s' (aimD v (shF v W m w), v.2) W P o) ∧ Sm y (y + 13) h h') := by
  have q := H
  obtain ⟨ps, ty, sp, om, g1⟩ := H.n
  obtain ⟨e0, e1⟩ := id g1
  obtain ⟨f0, p1⟩ := H.sc.1
  have hS := R.2.1.2.2.1
  have h7 : ∀ c, B7 (shF v W m w c) := fun c => pF_B7 R.2.2.1 _ _ _ c
  have hsh : -2 ≤ (if w = 1 then bestF v W m else 0) ∧ (if w = 1 then bestF v W m else 0) ≤ 2 := by
    split
    · exact bestF_in _ _ _
    · decide
  refine AM.intro mf_X10_aims (by simp [Value.category]) (Nat.le_of_ble_eq_true rfl) (fun X hl hE hnm hX => ?_)
  subst hl
  subst hE
  show AW X _ _ 0 0 0 [some (.ref y), some (.int (nI m)), some (.int (nI w)), none] []
  have loop : ∀ (g j : Nat) (s' : IF) (hh : HP), j ≤ 40 → 40 - j < g → HQ hh y s' B W P o → hh (y + 6) = some (cI 40 (shF v W m w)) → Sm y (y + 13) h hh → (∀ k, k < 49 ∨ 89 ≤ k → s' k = s k) → (∀ c, c < j → s' (49 + c) = shF v W m w c) → AW X n hh 0 0 17 [some (.ref y), some (.int (nI m)), some (.int (nI w)), some (.int (nI j))] [] := by
    intro g
    induction g with
    | zero => intro j s' hh h1 h2; omega
    | succ g ih =>
      intro j s' hh h1 h2 q p1 sm h3 h4
      obtain ⟨ps, ty, sp2, om2, g1⟩ := q.n
      obtain ⟨e0, e1⟩ := id g1
      refine aw_iload_n hX dX10_aims_17 rfl ?_
      refine aw_bipush hX (40) dX10_aims_18 (by decide) ?_
      refine aw_icmp_ge hX 44 dX10_aims_20 (by decide) (fun c_20 => ?_) (fun c_20 => ?_)
      · have n_20 : 40 ≤ j := (nI_leI (a := 40) (b := j) (by omega) (by omega)).mp c_20
        exact aw_vret hX rfl rfl rfl rfl dX10_aims_44 (by exact ⟨rfl, ⟨s', q, R.aim h3 (fun c hc => h4 c (by omega)) h7 (fun c hc => pF_out hc)⟩, sm⟩)
      · have n_20 : ¬ 40 ≤ j := fun q => c_20 ((nI_leI (a := 40) (b := j) (by omega) (by omega)).mpr q)
        refine aw_aload_n hX dX10_aims_23 rfl ?_
        refine gt_X10_7 hX dX10_aims_24 (by assumption) (by exact rfl) ?_
        refine aw_bipush hX (49) dX10_aims_27 (by decide) ?_
        refine aw_iload_n hX dX10_aims_29 rfl ?_
        refine aw_iadd hX dX10_aims_30 ?_
        refine aw_aload_n hX dX10_aims_31 rfl ?_
        refine gt_X10_25 hX dX10_aims_32 (by assumption) (by exact rfl) ?_
        refine aw_iload_n hX dX10_aims_35 rfl ?_
        refine aw_ialdN hX (j) (by assumption) rfl (by omega) (by first | decide | assumption) dX10_aims_36 ?_
        refine aw_iastN hX (49 + j) (by assumption) (nI_add 49 j) (by omega) (by first | decide | assumption) dX10_aims_37 ?_
        refine aw_iinc hX (nI (j + 1)) dX10_aims_38 rfl (nI_1 j) ?_
        refine aw_goto hX 17 dX10_aims_41 (by decide) ?_
        exact ih (j + 1) (upd s' (49 + j) (shF v W m w j)) _ (by omega) (by omega) (q.put _) ((hset_ne _ _ (by omega)).trans p1) (sm.set (by omega) (by omega)) (fun k hk => (pk_un (by omega)).trans (h3 k hk)) (fun c hc => by by_cases e : c = j; (subst e; exact pk_us); exact (pk_un (by omega)).trans (h4 c (by omega)))
  refine aw_aload_n hX dX10_aims_0 rfl ?_
  refine aw_iload_n hX dX10_aims_1 rfl ?_
  refine aw_aload_n hX dX10_aims_2 rfl ?_
  refine aw_iload_n hX dX10_aims_3 rfl ?_
  refine aw_iload_n hX dX10_aims_4 rfl ?_
  refine aw_callV0 hX RX10 rfl (tX10_shiftFor _ _ _ g1 R hm hw p1) rfl mf_X10_shiftFor mi_X10_shiftFor ms_X10_shiftFor kl_X10_136 (by assumption) rfl rfl (by decide) (Nat.le_of_ble_eq_true rfl) dX10_aims_5 (by decide) (fun v_5 h_5 p_5 => ?_)
  obtain ⟨rfl, f, rfl⟩ := p_5
  have q := q.pic f
  have g1 := g1.off (a := y + 6) (cI 40 f) (by omega)
  have e0 := g1.1
  have p1 := hset_eq h (y + 6) (cI 40 f)
  have sm := Sm.set (lo := y) (hi := y + 13) (Sm.rf (h := h)) (a := y + 6) (c := cI 40 f) (by omega) (by omega)
  refine aw_aload_n hX dX10_aims_8 rfl ?_
  refine gt_X10_25 hX dX10_aims_9 (by assumption) (by exact rfl) ?_
  refine aw_callV0 hX RX10 rfl (tX10_lays _ _ _ g1 R.1 hS hm hsh.1 hsh.2 p1 (by omega)) rfl mf_X10_lays mi_X10_lays ms_X10_lays kl_X10_75 (by assumption) rfl rfl (by decide) (Nat.le_of_ble_eq_true rfl) dX10_aims_12 (by decide) (fun v_12 h_12 p_12 => ?_)
  obtain ⟨rfl, rfl⟩ := p_12
  have q := q.pic (shF v W m w)
  have sm := sm.set (a := y + 6) (c := cI 40 (shF v W m w)) (by omega) (by omega)
  refine aw_iconst hX (0) dX10_aims_15 (by decide) ?_
  refine aw_istore_n hX dX10_aims_16 (Nat.le_of_ble_eq_true rfl) ?_
  exact loop 41 0 s _ (by decide) (by decide) q (hset_eq _ _ _) sm (fun k hk => rfl) (fun c hc => absurd hc (by omega))
theorem tX10_show (l : Launch) (E : EV) (n : Nat) (H : HR h y B W P o) (m w : Int32) : MX10_show l E n h [.ref y, .int m, .int w] (PM y h (fShow B W m w)) := by
  have e := H
  obtain ⟨s, q⟩ := H
  obtain ⟨pa, sp, om, g1, g2, g3, g4, g5, g6, g7⟩ := id q
  obtain ⟨e0, e1⟩ := id g1
  have hS := g5.2.1.2.2.1
  have hK8 : B.1.2.2.1.2.2.2.2 ≤ 8 := hS.1
  refine AM.intro mf_X10_show (by simp [Value.category]) (Nat.le_of_ble_eq_true rfl) (fun X hl hE hnm hX => ?_)
  subst hl
  subst hE
  show AW X _ _ 0 0 0 [some (.ref y), some (.int m), some (.int w)] []
  refine aw_aload_n hX dX10_show_0 rfl ?_
  refine aw_iload_n hX dX10_show_1 rfl ?_
  refine aw_iload_n hX dX10_show_2 rfl ?_
  refine aw_callVp hX RX10 rfl (tX10_isSh _ _ _ g1 g5 m w) rfl mf_X10_isShow mi_X10_isShow ms_X10_isShow kl_X10_139 (by assumption) rfl rfl (by decide) (Nat.le_of_ble_eq_true rfl) dX10_show_3 (by decide) ?_
  refine aw_if_ne hX 13 dX10_show_6 (by decide) (fun c_6 => ?_) (fun c_6 => ?_)
  · have hv := Decidable.not_not.mp (fun q => c_6 (bI_eq0.mpr q))
    rw [fShow, if_pos hv] at hX
    obtain ⟨⟨k, hk, rfl⟩, j, hj, rfl⟩ := wm_ex hS.1 hv
    have hkc : (nI k).toNatClampNeg = k := nI_clamp (by omega)
    have hjc : (nI j).toNatClampNeg = j := nI_clamp (by omega)
    rw [hkc, hjc] at hX
    refine aw_aload_n hX dX10_show_13 rfl ?_
    refine aw_callV0 hX RX10 rfl (tX10_hold _ _ _ q) rfl mf_X10_hold mi_X10_hold ms_X10_hold kl_X10_100 (by assumption) rfl rfl (by decide) (Nat.le_of_ble_eq_true rfl) dX10_show_14 (by decide) (fun v_14 h_14 p_14 => ?_)
    obtain ⟨rfl, q, sm⟩ := p_14
    obtain ⟨ps, ty, sp2, om2, g1⟩ := q.n
    obtain ⟨e0, e1⟩ := id g1
    refine aw_aload_n hX dX10_show_17 rfl ?_
    refine aw_iload_n hX dX10_show_18 rfl ?_
    refine aw_iload_n hX dX10_show_19 rfl ?_
    refine aw_callV0 hX RX10 rfl (tX10_aims _ _ _ q g5 hk hj) rfl mf_X10_aims mi_X10_aims ms_X10_aims kl_X10_142 (by assumption) rfl rfl (by decide) (Nat.le_of_ble_eq_true rfl) dX10_show_20 (by decide) (fun v_20 h_20 p_20 => ?_)
    obtain ⟨rfl, ⟨s', q, g5⟩, s2⟩ := p_20
    have sm := sm.tr s2 (Nat.le_refl _) (Nat.le_refl _)
    obtain ⟨ps, ty, sp2, om2, g1⟩ := q.n
    obtain ⟨e0, e1⟩ := id g1
    refine aw_aload_n hX dX10_show_23 rfl ?_
    refine aw_aload_n hX dX10_show_24 rfl ?_
    refine aw_callVp hX RX10 rfl (tX10_dueMany _ _ _ g1 g5.1 g5.2.2.2 g5.2.1.2.2.2.2.2) rfl mf_X10_dueMany mi_X10_dueMany ms_X10_dueMany kl_X10_145 (by assumption) rfl rfl (by decide) (Nat.le_of_ble_eq_true rfl) dX10_show_25 (by decide) ?_
    refine aw_callV0 hX RX10 rfl (tX10_ends _ _ _ q g5 _) rfl mf_X10_ends mi_X10_ends ms_X10_ends kl_X10_103 (by assumption) rfl rfl (by decide) (Nat.le_of_ble_eq_true rfl) dX10_show_28 (by decide) (fun v_28 h_28 p_28 => ?_)
    obtain ⟨rfl, q, s2⟩ := p_28
    exact aw_iret hX rfl rfl rfl rfl dX10_show_31 (by exact ⟨rfl, ⟨_, _, _, q⟩, sm.tr s2 (Nat.le_refl _) (Nat.le_refl _)⟩)
  · refine aw_sipush hX (-1001) dX10_show_9 (by decide) ?_
    exact aw_iret hX rfl rfl rfl rfl dX10_show_12 (by rw [fShow, if_neg (bI_eq0.mp c_6)]; exact ⟨rfl, ⟨_, _, _, e⟩, Sm.rf⟩)
theorem RI.beg {s' : IF} {k : Nat} (H : RI s v W P o) (hc : 6 ≤ k ∧ k ≤ 40) (e0 : s' 0 = nI k) (e : ∀ q, (1 ≤ q ∧ q < 5) ∨ (449 ≤ q ∧ q < 709) → s' q = s q) (f : ∀ q, 5 ≤ q → q < 449 → s' q = 0) : RI s' ((nI k, fun _ => 0, fun _ => 0, fun _ => 0, fun _ => 0, fun _ => 0), (0, 0, 0, 0, fun _ => 0), v.2.2) k P o := by
  obtain ⟨R, ⟨h1, h2, h3, h4, h5, h6⟩, hS, hZ⟩ := H
  exact ⟨R.beg h3 hc e0 e f, ⟨rfl, hc, h3, h4, h5, fun c hc => ⟨B7_0, B7_0, B7_0, B7_0⟩⟩, hS, fun c h1 h2 => ⟨rfl, rfl, rfl, rfl⟩⟩
theorem tX10_begin (l : Launch) (E : EV) (n : Nat) (H : HR h y B W P o) (c : Int32) : MX10_begin l E n h [.ref y, .int c] (PM y h (fBegin B c)) := by
  have e := H
  obtain ⟨s, q⟩ := H
  obtain ⟨pa, sp, om, g1, g2, g3, g4, g5, g6, g7⟩ := id q
  obtain ⟨e0, e1⟩ := id g1
  by_cases hv : 6 ≤ c ∧ c ≤ 40
  · obtain ⟨k, hk, rfl⟩ := rng 41 (by decide) (x := c) (Int32.le_trans (by decide) hv.1) (Int32.lt_of_le_of_lt hv.2 (by decide))
    have hk6 : 6 ≤ k := (nI_leI (a := 6) (b := k) (by decide) (by omega)).mp hv.1
    rw [fBegin, if_pos hv]
    refine AM.intro mf_X10_begin (by simp [Value.category]) (Nat.le_of_ble_eq_true rfl) (fun X hl hE hnm hX => ?_)
    subst hl
    subst hE
    show AW X _ _ 0 0 0 [some (.ref y), some (.int (nI k)), none, none] []
    have loop2 : ∀ (g j : Nat) (s' : IF) (hh : HP), j ≤ 20 → 20 - j < g → HQ hh y s' B W P o → Sm y (y + 13) h hh → s' 0 = nI k → (∀ q, (1 ≤ q ∧ q < 5) ∨ (449 ≤ q ∧ q < 709) → s' q = s q) → (∀ q, 5 ≤ q → q < 449 → s' q = 0) → AW X n hh 0 0 57 [some (.ref y), some (.int (nI k)), some (.int B.1.1.1), some (.int (nI j))] [] := by
      intro g
      induction g with
      | zero => intro j s' hh h1 h2; omega
      | succ g ih =>
        intro j s' hh h1 h2 q sm h3 h4 h5
        obtain ⟨ps, ty, sp2, om2, g1⟩ := q.n
        obtain ⟨e0, e1⟩ := id g1
        refine aw_iload_n hX dX10_begin_57 rfl ?_
        refine aw_bipush hX (20) dX10_begin_58 (by decide) ?_
        refine aw_icmp_ge hX 80 dX10_begin_60 (by decide) (fun c_60 => ?_) (fun c_60 => ?_)
        · have n_60 : 20 ≤ j := (nI_leI (a := 20) (b := j) (by omega) (by omega)).mp c_60
          refine aw_aload_n hX dX10_begin_80 rfl ?_
          refine aw_iload_n hX dX10_begin_81 rfl ?_
          refine aw_callV0 hX RX10 rfl (tX10_ends _ _ _ q (g5.beg ⟨hk6, by omega⟩ h3 h4 h5) _) rfl mf_X10_ends mi_X10_ends ms_X10_ends kl_X10_103 (by assumption) rfl rfl (by decide) (Nat.le_of_ble_eq_true rfl) dX10_begin_82 (by decide) (fun v_82 h_82 p_82 => ?_)
          obtain ⟨rfl, q, s2⟩ := p_82
          exact aw_iret hX rfl rfl rfl rfl dX10_begin_85 (by exact ⟨rfl, ⟨_, _, _, q⟩, sm.tr s2 (Nat.le_refl _) (Nat.le_refl _)⟩)
        · have n_60 : ¬ 20 ≤ j := fun q => c_60 ((nI_leI (a := 20) (b := j) (by omega) (by omega)).mpr q)
          refine aw_aload_n hX dX10_begin_63 rfl ?_
          refine gt_X10_7 hX dX10_begin_64 (by assumption) (by exact rfl) ?_
          refine aw_sipush hX (709) dX10_begin_67 (by decide) ?_
          refine aw_iload_n hX dX10_begin_70 rfl ?_
          refine aw_iadd hX dX10_begin_71 ?_
          refine aw_iconst hX (0) dX10_begin_72 (by decide) ?_
          refine aw_iastN hX (709 + j) (by assumption) (nI_add 709 j) (by omega) (by first | decide | assumption) dX10_begin_73 ?_
          refine aw_iinc hX (nI (j + 1)) dX10_begin_74 rfl (nI_1 j) ?_
          refine aw_goto hX 57 dX10_begin_77 (by decide) ?_
          exact ih (j + 1) (upd s' (709 + j) 0) _ (by omega) (by omega) (q.put _) (sm.set (by omega) (by omega)) ((pk_un (by omega)).trans h3) (fun q hq => (pk_un (by omega)).trans (h4 q hq)) (fun q h6 h7 => (pk_un (by omega)).trans (h5 q h6 h7))
    have loop1 : ∀ (g j : Nat) (s' : IF) (hh : HP), 5 ≤ j → j ≤ 449 → 449 - j < g → HQ hh y s' B W P o → Sm y (y + 13) h hh → s' 0 = nI k → (∀ q, (1 ≤ q ∧ q < 5) ∨ (449 ≤ q ∧ q < 709) → s' q = s q) → (∀ q, 5 ≤ q → q < j → s' q = 0) → AW X n hh 0 0 35 [some (.ref y), some (.int (nI k)), some (.int B.1.1.1), some (.int (nI j))] [] := by
      intro g
      induction g with
      | zero => intro j s' hh h0 h1 h2; omega
      | succ g ih =>
        intro j s' hh h0 h1 h2 q sm h3 h4 h5
        obtain ⟨ps, ty, sp2, om2, g1⟩ := q.n
        obtain ⟨e0, e1⟩ := id g1
        refine aw_iload_n hX dX10_begin_35 rfl ?_
        refine aw_sipush hX (449) dX10_begin_36 (by decide) ?_
        refine aw_icmp_ge hX 55 dX10_begin_39 (by decide) (fun c_39 => ?_) (fun c_39 => ?_)
        · have n_39 : 449 ≤ j := (nI_leI (a := 449) (b := j) (by omega) (by omega)).mp c_39
          refine aw_iconst hX (0) dX10_begin_55 (by decide) ?_
          refine aw_istore_n hX dX10_begin_56 (Nat.le_of_ble_eq_true rfl) ?_
          exact loop2 21 0 s' hh (by decide) (by decide) q sm h3 h4 (fun q h6 h7 => h5 q h6 (by omega))
        · have n_39 : ¬ 449 ≤ j := fun q => c_39 ((nI_leI (a := 449) (b := j) (by omega) (by omega)).mpr q)
          refine aw_aload_n hX dX10_begin_42 rfl ?_
          refine gt_X10_7 hX dX10_begin_43 (by assumption) (by exact rfl) ?_
          refine aw_iload_n hX dX10_begin_46 rfl ?_
          refine aw_iconst hX (0) dX10_begin_47 (by decide) ?_
          refine aw_iastN hX (j) (by assumption) rfl (by omega) (by first | decide | assumption) dX10_begin_48 ?_
          refine aw_iinc hX (nI (j + 1)) dX10_begin_49 rfl (nI_1 j) ?_
          refine aw_goto hX 35 dX10_begin_52 (by decide) ?_
          exact ih (j + 1) (upd s' j 0) _ (by omega) (by omega) (by omega) (q.put _) (sm.set (by omega) (by omega)) ((pk_un (by omega)).trans h3) (fun q hq => (pk_un (by omega)).trans (h4 q hq)) (fun q h6 h7 => by by_cases z : q = j; (subst z; exact pk_us); exact (pk_un z).trans (h5 q h6 (by omega)))
    refine aw_iload_n hX dX10_begin_0 rfl ?_
    refine aw_bipush hX (6) dX10_begin_1 (by decide) ?_
    refine aw_bipush hX (40) dX10_begin_3 (by decide) ?_
    refine aw_callSp hX RX10 rfl (tX10_in _ _ _ _ (nI k) 6 40) rfl mf_X10_in mt_X10_in kl_X10_96 rfl (by decide) (Nat.le_of_ble_eq_true rfl) dX10_begin_5 (by decide) ?_
    refine aw_if_ne hX 15 dX10_begin_8 (by decide) (fun c_8 => ?_) (fun c_8 => ?_)
    · refine aw_aload_n hX dX10_begin_15 rfl ?_
      refine aw_callV0 hX RX10 rfl (tX10_hold _ _ _ q) rfl mf_X10_hold mi_X10_hold ms_X10_hold kl_X10_100 (by assumption) rfl rfl (by decide) (Nat.le_of_ble_eq_true rfl) dX10_begin_16 (by decide) (fun v_16 h_16 p_16 => ?_)
      obtain ⟨rfl, q, sm⟩ := p_16
      obtain ⟨ps, ty, sp2, om2, g1⟩ := q.n
      obtain ⟨e0, e1⟩ := id g1
      refine aw_aload_n hX dX10_begin_19 rfl ?_
      refine gt_X10_7 hX dX10_begin_20 (by assumption) (by exact rfl) ?_
      refine aw_iconst hX (0) dX10_begin_23 (by decide) ?_
      refine aw_ialdN hX (0) (by assumption) rfl (by decide) (by first | decide | assumption) dX10_begin_24 ?_
      rw [show s 0 = B.1.1.1 from g5.1.1.1.trans g5.1.1.2.1.symm]
      refine aw_istore_n hX dX10_begin_25 (Nat.le_of_ble_eq_true rfl) ?_
      refine aw_aload_n hX dX10_begin_26 rfl ?_
      refine gt_X10_7 hX dX10_begin_27 (by assumption) (by exact rfl) ?_
      refine aw_iconst hX (0) dX10_begin_30 (by decide) ?_
      refine aw_iload_n hX dX10_begin_31 rfl ?_
      refine aw_iastN hX (0) (by assumption) rfl (by decide) (by first | decide | assumption) dX10_begin_32 ?_
      refine aw_iconst hX (5) dX10_begin_33 (by decide) ?_
      refine aw_istore_n hX dX10_begin_34 (Nat.le_of_ble_eq_true rfl) ?_
      exact loop1 445 5 (upd s 0 (nI k)) _ (by decide) (by decide) (by decide) (q.put _) (sm.set (by omega) (by omega)) pk_us (fun q hq => pk_un (by omega)) (fun q h6 h7 => absurd h7 (by omega))
    · refine aw_sipush hX (-1001) dX10_begin_11 (by decide) ?_
      exact aw_iret hX rfl rfl rfl rfl dX10_begin_14 (by exact absurd hv (bI_eq0.mp c_8))
  · rw [fBegin, if_neg hv]
    refine AM.intro mf_X10_begin (by simp [Value.category]) (Nat.le_of_ble_eq_true rfl) (fun X hl hE hnm hX => ?_)
    subst hl
    subst hE
    show AW X _ _ 0 0 0 [some (.ref y), some (.int c), none, none] []
    refine aw_iload_n hX dX10_begin_0 rfl ?_
    refine aw_bipush hX (6) dX10_begin_1 (by decide) ?_
    refine aw_bipush hX (40) dX10_begin_3 (by decide) ?_
    refine aw_callSp hX RX10 rfl (tX10_in _ _ _ _ c 6 40) rfl mf_X10_in mt_X10_in kl_X10_96 rfl (by decide) (Nat.le_of_ble_eq_true rfl) dX10_begin_5 (by decide) ?_
    refine aw_if_ne hX 15 dX10_begin_8 (by decide) (fun c_8 => ?_) (fun c_8 => ?_)
    · exact absurd (Decidable.not_not.mp (fun q => c_8 (bI_eq0.mpr q))) hv
    · refine aw_sipush hX (-1001) dX10_begin_11 (by decide) ?_
      exact aw_iret hX rfl rfl rfl rfl dX10_begin_14 (by exact ⟨rfl, ⟨_, _, _, e⟩, Sm.rf⟩)
theorem HR.ty (H : HR h y B W P o) : ∃ sp om, h y = some (oM y B.2.1.length B.2.2.2 sp om) ∧ h (y + 5) = some (cI 120 (nF B.2.2.1)) ∧ (∀ ty', HR (hset h y (oM y B.2.1.length ty' sp om)) y (B.1, B.2.1, B.2.2.1, ty') W P o) ∧ ∀ tx', HR (hset h (y + 5) (cI 120 (nF tx'))) y (B.1, B.2.1, tx', B.2.2.2) W P o := by
  obtain ⟨s, pa, sp, om, ⟨g0, g1⟩, g2, g3, g4, g5⟩ := H
  exact ⟨sp, om, g0, g4, fun ty' => ⟨s, pa, sp, om, ⟨hset_eq _ _ _, (hset_ne _ _ (by omega)).trans g1⟩, g2.low _ (by omega), (hset_ne _ _ (by omega)).trans g3, (hset_ne _ _ (by omega)).trans g4, g5⟩, fun tx' => ⟨s, pa, sp, om, ⟨(hset_ne _ _ (by omega)).trans g0, (hset_ne _ _ (by omega)).trans g1⟩, g2.low _ (by omega), (hset_ne _ _ (by omega)).trans g3, hset_eq _ _ _, g5⟩⟩
theorem tX10_clearText (l : Launch) (E : EV) (n : Nat) (H : HR h y B W P o) : MX10_clearText l E n h [.ref y] (PM y h (fClear B)) := by
  obtain ⟨sp, om, e0, e5, k1, k2⟩ := H.ty
  refine AM.intro mf_X10_clearText (by simp [Value.category]) (Nat.le_of_ble_eq_true rfl) (fun X hl hE hnm hX => ?_)
  subst hl
  subst hE
  show AW X _ _ 0 0 0 [some (.ref y), none] []
  refine aw_aload_n hX dX10_clearText_0 rfl ?_
  refine gt_X10_113 hX dX10_clearText_1 (by assumption) (by exact rfl) ?_
  refine aw_istore_n hX dX10_clearText_4 (Nat.le_of_ble_eq_true rfl) ?_
  refine aw_aload_n hX dX10_clearText_5 rfl ?_
  refine aw_iconst hX (0) dX10_clearText_6 (by decide) ?_
  refine pt_X10_113 hX dX10_clearText_7 (by assumption) (Nat.le_of_ble_eq_true rfl) ?_
  dsimp only [List.set_cons_zero, List.set_cons_succ]
  refine aw_iload_n hX dX10_clearText_10 rfl ?_
  exact aw_iret hX rfl rfl rfl rfl dX10_clearText_11 (by exact ⟨rfl, ⟨_, _, _, k1 0⟩, Sm.rf.set (by omega) (by omega)⟩)
theorem tX10_appendCharacter (l : Launch) (E : EV) (n : Nat) (H : HR h y B W P o) (ht : B.2.2.2 ≤ 120) (c : Int32) : MX10_appendCharacter l E n h [.ref y, .int c] (PM y h (fAppend B c)) := by
  have e := H
  obtain ⟨sp, om, e0, e5, k1, k2⟩ := H.ty
  refine AM.intro mf_X10_appendCharacter (by simp [Value.category]) (Nat.le_of_ble_eq_true rfl) (fun X hl hE hnm hX => ?_)
  subst hl
  subst hE
  show AW X _ _ 0 0 0 [some (.ref y), some (.int c)] []
  refine aw_iload_n hX dX10_appendCharacter_0 rfl ?_
  refine aw_iconst hX (0) dX10_appendCharacter_1 (by decide) ?_
  refine aw_sipush hX (255) dX10_appendCharacter_2 (by decide) ?_
  refine aw_callSp hX RX10 rfl (tX10_in _ _ _ _ c 0 255) rfl mf_X10_in mt_X10_in kl_X10_96 rfl (by decide) (Nat.le_of_ble_eq_true rfl) dX10_appendCharacter_5 (by decide) ?_
  refine aw_if_ne hX 15 dX10_appendCharacter_8 (by decide) (fun c_8 => ?_) (fun c_8 => ?_)
  · have hv := Decidable.not_not.mp (fun q => c_8 (bI_eq0.mpr q))
    obtain ⟨k, hk, rfl⟩ := rng 256 (by decide) hv.1 (Int32.lt_of_le_of_lt hv.2 (by decide))
    have hkc : (nI k).toNatClampNeg = k := nI_clamp (by omega)
    refine aw_aload_n hX dX10_appendCharacter_15 rfl ?_
    refine gt_X10_113 hX dX10_appendCharacter_16 (by assumption) (by exact rfl) ?_
    refine aw_bipush hX (120) dX10_appendCharacter_19 (by decide) ?_
    refine aw_icmp_ne hX 28 dX10_appendCharacter_21 (by decide) (fun c_21 => ?_) (fun c_21 => ?_)
    · have n_21 : ¬ B.2.2.2 = 120 := fun q => c_21 ((nI_eq (a := B.2.2.2) (b := 120) (by omega) (by omega)).mpr q)
      refine aw_aload_n hX dX10_appendCharacter_28 rfl ?_
      refine gt_X10_22 hX dX10_appendCharacter_29 (by assumption) (by exact rfl) ?_
      refine aw_aload_n hX dX10_appendCharacter_32 rfl ?_
      refine gt_X10_113 hX dX10_appendCharacter_33 (by assumption) (by exact rfl) ?_
      refine aw_iload_n hX dX10_appendCharacter_36 rfl ?_
      refine aw_iastN hX (B.2.2.2) (by assumption) rfl (by omega) (by first | decide | assumption) dX10_appendCharacter_37 ?_
      rw [upd_nF]
      have e := k2 (updN B.2.2.1 B.2.2.2 k)
      clear k1 k2 e0 e5
      obtain ⟨sp, om, e0, e5, k1, k2⟩ := e.ty
      refine aw_aload_n hX dX10_appendCharacter_38 rfl ?_
      refine aw_dup hX dX10_appendCharacter_39 rfl ?_
      refine gt_X10_113 hX dX10_appendCharacter_40 (by assumption) (by exact rfl) ?_
      refine aw_iconst hX (1) dX10_appendCharacter_43 (by decide) ?_
      refine aw_iadd hX dX10_appendCharacter_44 ?_
      rw [nI_1]
      refine pt_X10_113 hX dX10_appendCharacter_45 (by assumption) (Nat.le_of_ble_eq_true rfl) ?_
      dsimp only [List.set_cons_zero, List.set_cons_succ]
      have e := k1 (B.2.2.2 + 1)
      have e0 := hset_eq (hset h (y + 5) (cI 120 (nF (updN B.2.2.1 B.2.2.2 k)))) y (oM y B.2.1.length (B.2.2.2 + 1) sp om)
      refine aw_aload_n hX dX10_appendCharacter_48 rfl ?_
      refine gt_X10_113 hX dX10_appendCharacter_49 (by assumption) (by exact rfl) ?_
      exact aw_iret hX rfl rfl rfl rfl dX10_appendCharacter_52 (by rw [fAppend, hkc, if_pos hv, if_pos (by omega)]; exact ⟨rfl, ⟨_, _, _, e⟩, by repeat first | exact Sm.rf | refine Sm.set ?_ (by omega) (by omega)⟩)
    · have n_21 : B.2.2.2 = 120 := (nI_eq (a := B.2.2.2) (b := 120) (by omega) (by omega)).mp c_21
      refine aw_sipush hX (-1003) dX10_appendCharacter_24 (by decide) ?_
      exact aw_iret hX rfl rfl rfl rfl dX10_appendCharacter_27 (by rw [fAppend, if_pos hv, if_neg (by omega)]; exact ⟨rfl, ⟨_, _, _, e⟩, Sm.rf⟩)
  · refine aw_sipush hX (-1001) dX10_appendCharacter_11 (by decide) ?_
    exact aw_iret hX rfl rfl rfl rfl dX10_appendCharacter_14 (by rw [fAppend, if_neg (bI_eq0.mp c_8)]; exact ⟨rfl, ⟨_, _, _, e⟩, Sm.rf⟩)
end REF7
