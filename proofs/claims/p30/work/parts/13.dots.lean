/-! Dots -/
theorem lp_out {N j : Nat} (h1 : j ≤ N) (hN : N < 2 ^ 31) (c : nI N ≤ nI j) : j = N := Nat.le_antisymm h1 (Nat.not_lt.mp (fun q => nI_ge q hN c))
theorem lp_in {N j : Nat} (h1 : j ≤ N) (hN : N < 2 ^ 31) (c : ¬ nI N ≤ nI j) : j < N := Nat.lt_of_le_of_ne h1 (fun q => c (by rw [q]; exact nI_le (Nat.le_refl _) hN))
theorem idx7 (j i : Nat) : nI j * 7 + nI i = nI (j * 7 + i) := by
  rw [show (7 : Int32) = nI 7 from rfl, pk_mul, nI_add]
/-- the bit of a row -/
def mk (i : Nat) : Int32 := (1 : Int32) <<< (nI i &&& 31)
section DOTS
variable {h : HP} {d : Nat} {w : Int32} {sh ai st kn fl : IF}
theorem HDots.a0 (H : HDots h d w sh ai st kn fl) (w' : Int32) : HDots (hset h d (cO 0 [.int w', .ref (d + 1), .ref (d + 2), .ref (d + 3), .ref (d + 4), .ref (d + 5)])) d w' sh ai st kn fl :=
  ⟨hset_eq _ _ _, (hset_ne _ _ (by omega)).trans H.2.1, (hset_ne _ _ (by omega)).trans H.2.2.1, (hset_ne _ _ (by omega)).trans H.2.2.2.1, (hset_ne _ _ (by omega)).trans H.2.2.2.2.1, (hset_ne _ _ (by omega)).trans H.2.2.2.2.2⟩
theorem HDots.a1 (H : HDots h d w sh ai st kn fl) (f : IF) : HDots (hset h (d + 1) (cI 40 f)) d w f ai st kn fl :=
  ⟨(hset_ne _ _ (by omega)).trans H.1, hset_eq _ _ _, (hset_ne _ _ (by omega)).trans H.2.2.1, (hset_ne _ _ (by omega)).trans H.2.2.2.1, (hset_ne _ _ (by omega)).trans H.2.2.2.2.1, (hset_ne _ _ (by omega)).trans H.2.2.2.2.2⟩
theorem HDots.a2 (H : HDots h d w sh ai st kn fl) (f : IF) : HDots (hset h (d + 2) (cI 40 f)) d w sh f st kn fl :=
  ⟨(hset_ne _ _ (by omega)).trans H.1, (hset_ne _ _ (by omega)).trans H.2.1, hset_eq _ _ _, (hset_ne _ _ (by omega)).trans H.2.2.2.1, (hset_ne _ _ (by omega)).trans H.2.2.2.2.1, (hset_ne _ _ (by omega)).trans H.2.2.2.2.2⟩
theorem HDots.a3 (H : HDots h d w sh ai st kn fl) (f : IF) : HDots (hset h (d + 3) (cI 40 f)) d w sh ai f kn fl :=
  ⟨(hset_ne _ _ (by omega)).trans H.1, (hset_ne _ _ (by omega)).trans H.2.1, (hset_ne _ _ (by omega)).trans H.2.2.1, hset_eq _ _ _, (hset_ne _ _ (by omega)).trans H.2.2.2.2.1, (hset_ne _ _ (by omega)).trans H.2.2.2.2.2⟩
theorem HDots.a4 (H : HDots h d w sh ai st kn fl) (f : IF) : HDots (hset h (d + 4) (cI 40 f)) d w sh ai st f fl :=
  ⟨(hset_ne _ _ (by omega)).trans H.1, (hset_ne _ _ (by omega)).trans H.2.1, (hset_ne _ _ (by omega)).trans H.2.2.1, (hset_ne _ _ (by omega)).trans H.2.2.2.1, hset_eq _ _ _, (hset_ne _ _ (by omega)).trans H.2.2.2.2.2⟩
theorem HDots.a5 (H : HDots h d w sh ai st kn fl) (f : IF) : HDots (hset h (d + 5) (cI 280 f)) d w sh ai st kn f :=
  ⟨(hset_ne _ _ (by omega)).trans H.1, (hset_ne _ _ (by omega)).trans H.2.1, (hset_ne _ _ (by omega)).trans H.2.2.1, (hset_ne _ _ (by omega)).trans H.2.2.2.1, (hset_ne _ _ (by omega)).trans H.2.2.2.2.1, hset_eq _ _ _⟩
theorem HDots.off (H : HDots h d w sh ai st kn fl) {a : Nat} (c : AC) (ha : a < d ∨ d + 6 ≤ a) : HDots (hset h a c) d w sh ai st kn fl :=
  H.sm (lo := a) (hi := a + 1) (Sm.rf.set (Nat.le_refl _) (Nat.lt_succ_self _)) (by omega)
theorem tX0_copyFrom (l : Launch) (E : EV) (n : Nat) {d' : Nat} {w' : Int32} {sh' ai' st' kn' fl' : IF} (H : HDots h d w sh ai st kn fl) (H' : HDots h d' w' sh' ai' st' kn' fl') (hd : d + 6 ≤ d' ∨ d' + 6 ≤ d) : MX0_copyFrom l E n h [.ref d, .ref d'] (fun v h' => v = none ∧ HDots h' d w' sh' ai' st' kn' fl' ∧ Sm d (d + 6) h h') := by
  have e := H
  have g := H'
  obtain ⟨e0, e1, e2, e3, e4, e5⟩ := H
  obtain ⟨g0, g1, g2, g3, g4, g5⟩ := H'
  refine AM.intro mf_X0_copyFrom (by simp [Value.category]) (Nat.le_of_ble_eq_true rfl) (fun X hl hE hnm hX => ?_)
  subst hl
  subst hE
  show AW X _ _ 0 0 0 [some (.ref d), some (.ref d')] []
  refine aw_aload_n hX dX0_copyFrom_0 rfl ?_
  refine aw_aload_n hX dX0_copyFrom_1 rfl ?_
  refine gt_X0_9 hX dX0_copyFrom_2 (by assumption) (by exact rfl) ?_
  refine pt_X0_9 hX dX0_copyFrom_5 (by assumption) (Nat.le_of_ble_eq_true rfl) ?_
  dsimp only [List.set_cons_zero, List.set_cons_succ]
  have e := e.a0 w'
  have g := g.off (a := d) (cO 0 [.int w', .ref (d + 1), .ref (d + 2), .ref (d + 3), .ref (d + 4), .ref (d + 5)]) (by omega)
  obtain ⟨e0, e1, e2, e3, e4, e5⟩ := id e
  obtain ⟨g0, g1, g2, g3, g4, g5⟩ := id g
  refine aw_aload_n hX dX0_copyFrom_8 rfl ?_
  refine gt_X0_15 hX dX0_copyFrom_9 (by assumption) (by exact rfl) ?_
  refine aw_aload_n hX dX0_copyFrom_12 rfl ?_
  refine gt_X0_15 hX dX0_copyFrom_13 (by assumption) (by exact rfl) ?_
  refine aw_callSN0 hX RX0 "FlipBoard" rfl (tX9_copy _ _ _ g1 e1 (by decide)) rfl mf_X9_copy mt_X9_copy kl_X0_31 rfl (by decide) (Nat.le_of_ble_eq_true rfl) dX0_copyFrom_16 (by decide) (fun v_16 h_16 p_16 => ?_)
  obtain ⟨rfl, rfl⟩ := p_16
  have e := e.a1 sh'
  have g := g.off (a := d + 1) (cI 40 sh') (by omega)
  obtain ⟨e0, e1, e2, e3, e4, e5⟩ := id e
  obtain ⟨g0, g1, g2, g3, g4, g5⟩ := id g
  refine aw_aload_n hX dX0_copyFrom_19 rfl ?_
  refine gt_X0_19 hX dX0_copyFrom_20 (by assumption) (by exact rfl) ?_
  refine aw_aload_n hX dX0_copyFrom_23 rfl ?_
  refine gt_X0_19 hX dX0_copyFrom_24 (by assumption) (by exact rfl) ?_
  refine aw_callSN0 hX RX0 "FlipBoard" rfl (tX9_copy _ _ _ g2 e2 (by decide)) rfl mf_X9_copy mt_X9_copy kl_X0_31 rfl (by decide) (Nat.le_of_ble_eq_true rfl) dX0_copyFrom_27 (by decide) (fun v_27 h_27 p_27 => ?_)
  obtain ⟨rfl, rfl⟩ := p_27
  have e := e.a2 ai'
  have g := g.off (a := d + 2) (cI 40 ai') (by omega)
  obtain ⟨e0, e1, e2, e3, e4, e5⟩ := id e
  obtain ⟨g0, g1, g2, g3, g4, g5⟩ := id g
  refine aw_aload_n hX dX0_copyFrom_30 rfl ?_
  refine gt_X0_22 hX dX0_copyFrom_31 (by assumption) (by exact rfl) ?_
  refine aw_aload_n hX dX0_copyFrom_34 rfl ?_
  refine gt_X0_22 hX dX0_copyFrom_35 (by assumption) (by exact rfl) ?_
  refine aw_callSN0 hX RX0 "FlipBoard" rfl (tX9_copy _ _ _ g3 e3 (by decide)) rfl mf_X9_copy mt_X9_copy kl_X0_31 rfl (by decide) (Nat.le_of_ble_eq_true rfl) dX0_copyFrom_38 (by decide) (fun v_38 h_38 p_38 => ?_)
  obtain ⟨rfl, rfl⟩ := p_38
  have e := e.a3 st'
  have g := g.off (a := d + 3) (cI 40 st') (by omega)
  obtain ⟨e0, e1, e2, e3, e4, e5⟩ := id e
  obtain ⟨g0, g1, g2, g3, g4, g5⟩ := id g
  refine aw_aload_n hX dX0_copyFrom_41 rfl ?_
  refine gt_X0_25 hX dX0_copyFrom_42 (by assumption) (by exact rfl) ?_
  refine aw_aload_n hX dX0_copyFrom_45 rfl ?_
  refine gt_X0_25 hX dX0_copyFrom_46 (by assumption) (by exact rfl) ?_
  refine aw_callSN0 hX RX0 "FlipBoard" rfl (tX9_copy _ _ _ g4 e4 (by decide)) rfl mf_X9_copy mt_X9_copy kl_X0_31 rfl (by decide) (Nat.le_of_ble_eq_true rfl) dX0_copyFrom_49 (by decide) (fun v_49 h_49 p_49 => ?_)
  obtain ⟨rfl, rfl⟩ := p_49
  have e := e.a4 kn'
  have g := g.off (a := d + 4) (cI 40 kn') (by omega)
  obtain ⟨e0, e1, e2, e3, e4, e5⟩ := id e
  obtain ⟨g0, g1, g2, g3, g4, g5⟩ := id g
  refine aw_aload_n hX dX0_copyFrom_52 rfl ?_
  refine gt_X0_28 hX dX0_copyFrom_53 (by assumption) (by exact rfl) ?_
  refine aw_aload_n hX dX0_copyFrom_56 rfl ?_
  refine gt_X0_28 hX dX0_copyFrom_57 (by assumption) (by exact rfl) ?_
  refine aw_callSN0 hX RX0 "FlipBoard" rfl (tX9_copy _ _ _ g5 e5 (by decide)) rfl mf_X9_copy mt_X9_copy kl_X0_31 rfl (by decide) (Nat.le_of_ble_eq_true rfl) dX0_copyFrom_60 (by decide) (fun v_60 h_60 p_60 => ?_)
  obtain ⟨rfl, rfl⟩ := p_60
  have e := e.a5 fl'
  exact aw_vret hX rfl rfl rfl rfl dX0_copyFrom_63 (by exact ⟨rfl, e, by repeat first | exact Sm.rf | refine Sm.set ?_ (by omega) (by omega)⟩)
theorem tX0_renew (l : Launch) (E : EV) (n : Nat) (H : HDots h d w sh ai st kn fl) (w' : Int32) : MX0_renew l E n h [.ref d, .int w'] (fun v h' => v = none ∧ HDots h' d w' (fun _ => 0) (fun _ => 0) (fun _ => 0) (fun _ => 0) (fun _ => 0) ∧ Sm d (d + 6) h h') := by
  have e := H
  obtain ⟨e0, e1, e2, e3, e4, e5⟩ := H
  refine AM.intro mf_X0_renew (by simp [Value.category]) (Nat.le_of_ble_eq_true rfl) (fun X hl hE hnm hX => ?_)
  subst hl
  subst hE
  show AW X _ _ 0 0 0 [some (.ref d), some (.int w')] []
  refine aw_aload_n hX dX0_renew_0 rfl ?_
  refine aw_iload_n hX dX0_renew_1 rfl ?_
  refine pt_X0_9 hX dX0_renew_2 (by assumption) (Nat.le_of_ble_eq_true rfl) ?_
  dsimp only [List.set_cons_zero, List.set_cons_succ]
  have e := e.a0 w'
  obtain ⟨e0, e1, e2, e3, e4, e5⟩ := id e
  refine aw_aload_n hX dX0_renew_5 rfl ?_
  refine gt_X0_15 hX dX0_renew_6 (by assumption) (by exact rfl) ?_
  refine aw_iconst hX (0) dX0_renew_9 (by decide) ?_
  refine aw_callS0 hX RX0 rfl (tJ7_fill _ _ _ e1 (by decide) 0) rfl mf_J7_fill_53178 mt_J7_fill_53178 kl_X0_35 rfl (by decide) (Nat.le_of_ble_eq_true rfl) dX0_renew_10 (by decide) (fun v_10 h_10 p_10 => ?_)
  obtain ⟨rfl, rfl⟩ := p_10
  have e := e.a1 (fun _ => 0)
  obtain ⟨e0, e1, e2, e3, e4, e5⟩ := id e
  refine aw_aload_n hX dX0_renew_13 rfl ?_
  refine gt_X0_19 hX dX0_renew_14 (by assumption) (by exact rfl) ?_
  refine aw_iconst hX (0) dX0_renew_17 (by decide) ?_
  refine aw_callS0 hX RX0 rfl (tJ7_fill _ _ _ e2 (by decide) 0) rfl mf_J7_fill_53178 mt_J7_fill_53178 kl_X0_35 rfl (by decide) (Nat.le_of_ble_eq_true rfl) dX0_renew_18 (by decide) (fun v_18 h_18 p_18 => ?_)
  obtain ⟨rfl, rfl⟩ := p_18
  have e := e.a2 (fun _ => 0)
  obtain ⟨e0, e1, e2, e3, e4, e5⟩ := id e
  refine aw_aload_n hX dX0_renew_21 rfl ?_
  refine gt_X0_22 hX dX0_renew_22 (by assumption) (by exact rfl) ?_
  refine aw_iconst hX (0) dX0_renew_25 (by decide) ?_
  refine aw_callS0 hX RX0 rfl (tJ7_fill _ _ _ e3 (by decide) 0) rfl mf_J7_fill_53178 mt_J7_fill_53178 kl_X0_35 rfl (by decide) (Nat.le_of_ble_eq_true rfl) dX0_renew_26 (by decide) (fun v_26 h_26 p_26 => ?_)
  obtain ⟨rfl, rfl⟩ := p_26
  have e := e.a3 (fun _ => 0)
  obtain ⟨e0, e1, e2, e3, e4, e5⟩ := id e
  refine aw_aload_n hX dX0_renew_29 rfl ?_
  refine gt_X0_25 hX dX0_renew_30 (by assumption) (by exact rfl) ?_
  refine aw_iconst hX (0) dX0_renew_33 (by decide) ?_
  refine aw_callS0 hX RX0 rfl (tJ7_fill _ _ _ e4 (by decide) 0) rfl mf_J7_fill_53178 mt_J7_fill_53178 kl_X0_35 rfl (by decide) (Nat.le_of_ble_eq_true rfl) dX0_renew_34 (by decide) (fun v_34 h_34 p_34 => ?_)
  obtain ⟨rfl, rfl⟩ := p_34
  have e := e.a4 (fun _ => 0)
  obtain ⟨e0, e1, e2, e3, e4, e5⟩ := id e
  refine aw_aload_n hX dX0_renew_37 rfl ?_
  refine gt_X0_28 hX dX0_renew_38 (by assumption) (by exact rfl) ?_
  refine aw_iconst hX (0) dX0_renew_41 (by decide) ?_
  refine aw_callS0 hX RX0 rfl (tJ7_fill _ _ _ e5 (by decide) 0) rfl mf_J7_fill_53178 mt_J7_fill_53178 kl_X0_35 rfl (by decide) (Nat.le_of_ble_eq_true rfl) dX0_renew_42 (by decide) (fun v_42 h_42 p_42 => ?_)
  obtain ⟨rfl, rfl⟩ := p_42
  have e := e.a5 (fun _ => 0)
  exact aw_vret hX rfl rfl rfl rfl dX0_renew_45 (by exact ⟨rfl, e, by repeat first | exact Sm.rf | refine Sm.set ?_ (by omega) (by omega)⟩)
theorem tX0_aimAt (l : Launch) (E : EV) (n : Nat) (H : HDots h d w sh ai st kn fl) {a : Nat} {f : IF} (hh : h a = some (cI 40 f)) : MX0_aimAt l E n h [.ref d, .ref a] (fun v h' => v = none ∧ HDots h' d w sh f st kn fl ∧ Sm d (d + 6) h h') := by
  have e := H
  obtain ⟨e0, e1, e2, e3, e4, e5⟩ := H
  refine AM.intro mf_X0_aimAt (by simp [Value.category]) (Nat.le_of_ble_eq_true rfl) (fun X hl hE hnm hX => ?_)
  subst hl
  subst hE
  show AW X _ _ 0 0 0 [some (.ref d), some (.ref a)] []
  refine aw_aload_n hX dX0_aimAt_0 rfl ?_
  refine aw_aload_n hX dX0_aimAt_1 rfl ?_
  refine gt_X0_19 hX dX0_aimAt_2 (by assumption) (by exact rfl) ?_
  refine aw_callSN0 hX RX0 "FlipBoard" rfl (tX9_copy _ _ _ hh e2 (by decide)) rfl mf_X9_copy mt_X9_copy kl_X0_31 rfl (by decide) (Nat.le_of_ble_eq_true rfl) dX0_aimAt_5 (by decide) (fun v_5 h_5 p_5 => ?_)
  obtain ⟨rfl, rfl⟩ := p_5
  have e := e.a2 f
  exact aw_vret hX rfl rfl rfl rfl dX0_aimAt_8 (by exact ⟨rfl, e, by repeat first | exact Sm.rf | refine Sm.set ?_ (by omega) (by omega)⟩)
theorem tX0_aimAtDark (l : Launch) (E : EV) (n : Nat) (H : HDots h d w sh ai st kn fl) : MX0_aimAtDark l E n h [.ref d] (fun v h' => v = none ∧ HDots h' d w sh (fun _ => 0) st kn fl ∧ Sm d (d + 6) h h') := by
  have e := H
  obtain ⟨e0, e1, e2, e3, e4, e5⟩ := H
  refine AM.intro mf_X0_aimAtDark (by simp [Value.category]) (Nat.le_of_ble_eq_true rfl) (fun X hl hE hnm hX => ?_)
  subst hl
  subst hE
  show AW X _ _ 0 0 0 [some (.ref d)] []
  refine aw_aload_n hX dX0_aimAtDark_0 rfl ?_
  refine gt_X0_19 hX dX0_aimAtDark_1 (by assumption) (by exact rfl) ?_
  refine aw_iconst hX (0) dX0_aimAtDark_4 (by decide) ?_
  refine aw_callS0 hX RX0 rfl (tJ7_fill _ _ _ e2 (by decide) 0) rfl mf_J7_fill_53178 mt_J7_fill_53178 kl_X0_35 rfl (by decide) (Nat.le_of_ble_eq_true rfl) dX0_aimAtDark_5 (by decide) (fun v_5 h_5 p_5 => ?_)
  obtain ⟨rfl, rfl⟩ := p_5
  have e := e.a2 (fun _ => 0)
  exact aw_vret hX rfl rfl rfl rfl dX0_aimAtDark_8 (by exact ⟨rfl, e, by repeat first | exact Sm.rf | refine Sm.set ?_ (by omega) (by omega)⟩)
theorem tX0_dueBits (l : Launch) (E : EV) (n : Nat) (H : HDots h d w sh ai st kn fl) {j : Nat} (hj : j < 40) : MX0_dueBits l E n h [.ref d, .int (nI j)] (PR (.int (if nI j < w then (ai j ^^^ sh j) &&& (kn j ^^^ (-1)) else 0)) h) := by
  have e := H
  obtain ⟨e0, e1, e2, e3, e4, e5⟩ := H
  by_cases hw : nI j < w
  · rw [if_pos hw]
    refine AM.intro mf_X0_dueBits (by simp [Value.category]) (Nat.le_of_ble_eq_true rfl) (fun X hl hE hnm hX => ?_)
    subst hl
    subst hE
    show AW X _ _ 0 0 0 [some (.ref d), some (.int (nI j))] []
    refine aw_aload_n hX dX0_dueBits_0 rfl ?_
    refine aw_iload_n hX dX0_dueBits_1 rfl ?_
    refine aw_callVp hX RX0 rfl (tX0_hasColumn _ _ _ e _) rfl mf_X0_hasColumn mi_X0_hasColumn ms_X0_hasColumn kl_X0_41 (by assumption) rfl rfl (by decide) (Nat.le_of_ble_eq_true rfl) dX0_dueBits_2 (by decide) ?_
    rw [bI_t ⟨nI_pos' (by omega), hw, nI_lt hj (by decide)⟩]
    refine aw_if_eq hX 33 dX0_dueBits_5 (by decide) (fun c_5 => ?_) (fun c_5 => ?_)
    · exact absurd c_5 (by decide)
    · refine aw_aload_n hX dX0_dueBits_8 rfl ?_
      refine gt_X0_19 hX dX0_dueBits_9 (by assumption) (by exact rfl) ?_
      refine aw_iload_n hX dX0_dueBits_12 rfl ?_
      refine aw_ialdN hX (j) (by assumption) rfl hj (by first | decide | assumption) dX0_dueBits_13 ?_
      refine aw_aload_n hX dX0_dueBits_14 rfl ?_
      refine gt_X0_15 hX dX0_dueBits_15 (by assumption) (by exact rfl) ?_
      refine aw_iload_n hX dX0_dueBits_18 rfl ?_
      refine aw_ialdN hX (j) (by assumption) rfl hj (by first | decide | assumption) dX0_dueBits_19 ?_
      refine aw_ixor hX dX0_dueBits_20 ?_
      refine aw_aload_n hX dX0_dueBits_21 rfl ?_
      refine gt_X0_25 hX dX0_dueBits_22 (by assumption) (by exact rfl) ?_
      refine aw_iload_n hX dX0_dueBits_25 rfl ?_
      refine aw_ialdN hX (j) (by assumption) rfl hj (by first | decide | assumption) dX0_dueBits_26 ?_
      refine aw_iconst hX (-1) dX0_dueBits_27 (by decide) ?_
      refine aw_ixor hX dX0_dueBits_28 ?_
      refine aw_iand hX dX0_dueBits_29 ?_
      refine aw_goto hX 34 dX0_dueBits_30 (by decide) ?_
      exact aw_iret hX rfl rfl rfl rfl dX0_dueBits_34 (by exact ⟨rfl, rfl⟩)
  · rw [if_neg hw]
    refine AM.intro mf_X0_dueBits (by simp [Value.category]) (Nat.le_of_ble_eq_true rfl) (fun X hl hE hnm hX => ?_)
    subst hl
    subst hE
    show AW X _ _ 0 0 0 [some (.ref d), some (.int (nI j))] []
    refine aw_aload_n hX dX0_dueBits_0 rfl ?_
    refine aw_iload_n hX dX0_dueBits_1 rfl ?_
    refine aw_callVp hX RX0 rfl (tX0_hasColumn _ _ _ e _) rfl mf_X0_hasColumn mi_X0_hasColumn ms_X0_hasColumn kl_X0_41 (by assumption) rfl rfl (by decide) (Nat.le_of_ble_eq_true rfl) dX0_dueBits_2 (by decide) ?_
    rw [bI_f (fun q => hw q.2.1)]
    refine aw_if_eq hX 33 dX0_dueBits_5 (by decide) (fun c_5 => ?_) (fun c_5 => ?_)
    · refine aw_iconst hX (0) dX0_dueBits_33 (by decide) ?_
      exact aw_iret hX rfl rfl rfl rfl dX0_dueBits_34 (by exact ⟨rfl, rfl⟩)
    · exact absurd rfl c_5
theorem tX0_differing (l : Launch) (E : EV) (n : Nat) (H : HDots h d w sh ai st kn fl) {a b : Nat} {p o : IF} (ha : h a = some (cI 40 p)) (hb : h b = some (cI 40 o)) : MX0_differing l E n h [.ref d, .ref a, .ref b] (PR (.int (sumI (fun c => bcF ((p c ^^^ o c) &&& (kn c ^^^ (-1)))) 40)) h) := by
  obtain ⟨e0, e1, e2, e3, e4, e5⟩ := H
  refine AM.intro mf_X0_differing (by simp [Value.category]) (Nat.le_of_ble_eq_true rfl) (fun X hl hE hnm hX => ?_)
  subst hl
  subst hE
  show AW X _ _ 0 0 0 [some (.ref d), some (.ref a), some (.ref b), none, none, none] []
  have loop : ∀ (m j : Nat) (y : Option Value), j ≤ 40 → 40 - j < m → AW X n h 0 0 5 [some (.ref d), some (.ref a), some (.ref b), some (.int (sumI (fun c => bcF ((p c ^^^ o c) &&& (kn c ^^^ (-1)))) j)), some (.int (nI j)), y] [] := by
    intro m
    induction m with
    | zero => intro j y h1 h2; omega
    | succ m ih =>
      intro j y h1 h2
      refine aw_iload hX dX0_differing_5 rfl ?_
      refine aw_bipush hX (40) dX0_differing_7 (by decide) ?_
      refine aw_icmp_ge hX 61 dX0_differing_9 (by decide) (fun c_9 => ?_) (fun c_9 => ?_)
      · have hj : j = 40 := lp_out h1 (by decide) c_9
        subst hj
        refine aw_iload_n hX dX0_differing_61 rfl ?_
        exact aw_iret hX rfl rfl rfl rfl dX0_differing_62 ⟨rfl, rfl⟩
      · refine aw_iload hX dX0_differing_12 rfl ?_
        refine aw_aload_n hX dX0_differing_14 rfl ?_
        refine aw_alen hX _ (by assumption) (by decide) rfl dX0_differing_15 ?_
        refine aw_icmp_ge hX 55 dX0_differing_16 (by decide) (fun c_16 => ?_) (fun c_16 => ?_)
        · exact absurd c_16 (nI_ge (lp_in h1 (by decide) c_9) (by decide))
        · refine aw_iload hX dX0_differing_19 rfl ?_
          refine aw_aload_n hX dX0_differing_21 rfl ?_
          refine aw_alen hX _ (by assumption) (by decide) rfl dX0_differing_22 ?_
          refine aw_icmp_ge hX 55 dX0_differing_23 (by decide) (fun c_23 => ?_) (fun c_23 => ?_)
          · exact absurd c_23 (nI_ge (lp_in h1 (by decide) c_9) (by decide))
          · refine aw_aload_n hX dX0_differing_26 rfl ?_
            refine aw_iload hX dX0_differing_27 rfl ?_
            refine aw_ialdN hX (j) (by assumption) rfl (lp_in h1 (by decide) c_9) (by first | decide | assumption) dX0_differing_29 ?_
            refine aw_aload_n hX dX0_differing_30 rfl ?_
            refine aw_iload hX dX0_differing_31 rfl ?_
            refine aw_ialdN hX (j) (by assumption) rfl (lp_in h1 (by decide) c_9) (by first | decide | assumption) dX0_differing_33 ?_
            refine aw_ixor hX dX0_differing_34 ?_
            refine aw_istore hX dX0_differing_35 (Nat.le_of_ble_eq_true rfl) ?_
            refine aw_iload_n hX dX0_differing_37 rfl ?_
            refine aw_iload hX dX0_differing_38 rfl ?_
            refine aw_aload_n hX dX0_differing_40 rfl ?_
            refine gt_X0_25 hX dX0_differing_41 (by assumption) (by exact rfl) ?_
            refine aw_iload hX dX0_differing_44 rfl ?_
            refine aw_ialdN hX (j) (by assumption) rfl (lp_in h1 (by decide) c_9) (by first | decide | assumption) dX0_differing_46 ?_
            refine aw_iconst hX (-1) dX0_differing_47 (by decide) ?_
            refine aw_ixor hX dX0_differing_48 ?_
            refine aw_iand hX dX0_differing_49 ?_
            refine aw_callSp hX RX0 rfl (tJ6_bitCount _ _ _ _ _) rfl mf_J6_bitCount_0f7a4 mt_J6_bitCount_0f7a4 kl_X0_49 rfl (by decide) (Nat.le_of_ble_eq_true rfl) dX0_differing_50 (by decide) ?_
            refine aw_iadd hX dX0_differing_53 ?_
            refine aw_istore_n hX dX0_differing_54 (Nat.le_of_ble_eq_true rfl) ?_
            refine aw_iinc hX (nI (j + 1)) dX0_differing_55 rfl (nI_1 j) ?_
            refine aw_goto hX 5 dX0_differing_58 (by decide) ?_
            have hj := lp_in h1 (by decide) c_9
            exact ih (j + 1) _ hj (by omega)
  refine aw_iconst hX (0) dX0_differing_0 (by decide) ?_
  refine aw_istore_n hX dX0_differing_1 (Nat.le_of_ble_eq_true rfl) ?_
  refine aw_iconst hX (0) dX0_differing_2 (by decide) ?_
  refine aw_istore hX dX0_differing_3 (Nat.le_of_ble_eq_true rfl) ?_
  exact loop 41 0 _ (by decide) (by decide)
theorem tX0_dotsIn (l : Launch) (E : EV) (n : Nat) {a N : Nat} {p : IF} (ha : h a = some (cI N p)) (hN : N < 2 ^ 31) : MX0_dotsIn l E n h [.ref a] (PR (.int (sumI (fun c => bcF (p c)) N)) h) := by
  refine AM.intro mf_X0_dotsIn (by simp [Value.category]) (Nat.le_of_ble_eq_true rfl) (fun X hl hE hnm hX => ?_)
  subst hl
  subst hE
  show AW X _ _ 0 0 0 [some (.ref a), none, none] []
  have loop : ∀ (m j : Nat), j ≤ N → N - j < m → AW X n h 0 0 4 [some (.ref a), some (.int (sumI (fun c => bcF (p c)) j)), some (.int (nI j))] [] := by
    intro m
    induction m with
    | zero => intro j h1 h2; omega
    | succ m ih =>
      intro j h1 h2
      refine aw_iload_n hX dX0_dotsIn_4 rfl ?_
      refine aw_aload_n hX dX0_dotsIn_5 rfl ?_
      refine aw_alen hX _ (by assumption) (by decide) rfl dX0_dotsIn_6 ?_
      refine aw_icmp_ge hX 25 dX0_dotsIn_7 (by decide) (fun c_7 => ?_) (fun c_7 => ?_)
      · have hj : j = N := lp_out h1 hN c_7
        subst hj
        refine aw_iload_n hX dX0_dotsIn_25 rfl ?_
        exact aw_iret hX rfl rfl rfl rfl dX0_dotsIn_26 ⟨rfl, rfl⟩
      · refine aw_iload_n hX dX0_dotsIn_10 rfl ?_
        refine aw_aload_n hX dX0_dotsIn_11 rfl ?_
        refine aw_iload_n hX dX0_dotsIn_12 rfl ?_
        refine aw_ialdN hX (j) (by assumption) rfl (lp_in h1 hN c_7) (by first | decide | assumption) dX0_dotsIn_13 ?_
        refine aw_callSp hX RX0 rfl (tJ6_bitCount _ _ _ _ _) rfl mf_J6_bitCount_0f7a4 mt_J6_bitCount_0f7a4 kl_X0_49 rfl (by decide) (Nat.le_of_ble_eq_true rfl) dX0_dotsIn_14 (by decide) ?_
        refine aw_iadd hX dX0_dotsIn_17 ?_
        refine aw_istore_n hX dX0_dotsIn_18 (Nat.le_of_ble_eq_true rfl) ?_
        refine aw_iinc hX (nI (j + 1)) dX0_dotsIn_19 rfl (nI_1 j) ?_
        refine aw_goto hX 4 dX0_dotsIn_22 (by decide) ?_
        have hj := lp_in h1 hN c_7
        exact ih (j + 1) hj (by omega)
  refine aw_iconst hX (0) dX0_dotsIn_0 (by decide) ?_
  refine aw_istore_n hX dX0_dotsIn_1 (Nat.le_of_ble_eq_true rfl) ?_
  refine aw_iconst hX (0) dX0_dotsIn_2 (by decide) ?_
  refine aw_istore_n hX dX0_dotsIn_3 (Nat.le_of_ble_eq_true rfl) ?_
  exact loop (N + 1) 0 (Nat.zero_le _) (by omega)
theorem tX0_otherDots (l : Launch) (E : EV) (n : Nat) (H : HDots h d w sh ai st kn fl) : MX0_otherDots l E n h [.ref d] (PR (.int (sumI (fun c => bcF (ai c ^^^ sh c)) 40)) h) := by
  obtain ⟨e0, e1, e2, e3, e4, e5⟩ := H
  refine AM.intro mf_X0_otherDots (by simp [Value.category]) (Nat.le_of_ble_eq_true rfl) (fun X hl hE hnm hX => ?_)
  subst hl
  subst hE
  show AW X _ _ 0 0 0 [some (.ref d), none, none] []
  have loop : ∀ (m j : Nat), j ≤ 40 → 40 - j < m → AW X n h 0 0 4 [some (.ref d), some (.int (sumI (fun c => bcF (ai c ^^^ sh c)) j)), some (.int (nI j))] [] := by
    intro m
    induction m with
    | zero => intro j h1 h2; omega
    | succ m ih =>
      intro j h1 h2
      refine aw_iload_n hX dX0_otherDots_4 rfl ?_
      refine aw_bipush hX (40) dX0_otherDots_5 (by decide) ?_
      refine aw_icmp_ge hX 35 dX0_otherDots_7 (by decide) (fun c_7 => ?_) (fun c_7 => ?_)
      · have hj : j = 40 := lp_out h1 (by decide) c_7
        subst hj
        refine aw_iload_n hX dX0_otherDots_35 rfl ?_
        exact aw_iret hX rfl rfl rfl rfl dX0_otherDots_36 ⟨rfl, rfl⟩
      · refine aw_iload_n hX dX0_otherDots_10 rfl ?_
        refine aw_aload_n hX dX0_otherDots_11 rfl ?_
        refine gt_X0_19 hX dX0_otherDots_12 (by assumption) (by exact rfl) ?_
        refine aw_iload_n hX dX0_otherDots_15 rfl ?_
        refine aw_ialdN hX (j) (by assumption) rfl (lp_in h1 (by decide) c_7) (by first | decide | assumption) dX0_otherDots_16 ?_
        refine aw_aload_n hX dX0_otherDots_17 rfl ?_
        refine gt_X0_15 hX dX0_otherDots_18 (by assumption) (by exact rfl) ?_
        refine aw_iload_n hX dX0_otherDots_21 rfl ?_
        refine aw_ialdN hX (j) (by assumption) rfl (lp_in h1 (by decide) c_7) (by first | decide | assumption) dX0_otherDots_22 ?_
        refine aw_ixor hX dX0_otherDots_23 ?_
        refine aw_callSp hX RX0 rfl (tJ6_bitCount _ _ _ _ _) rfl mf_J6_bitCount_0f7a4 mt_J6_bitCount_0f7a4 kl_X0_49 rfl (by decide) (Nat.le_of_ble_eq_true rfl) dX0_otherDots_24 (by decide) ?_
        refine aw_iadd hX dX0_otherDots_27 ?_
        refine aw_istore_n hX dX0_otherDots_28 (Nat.le_of_ble_eq_true rfl) ?_
        refine aw_iinc hX (nI (j + 1)) dX0_otherDots_29 rfl (nI_1 j) ?_
        refine aw_goto hX 4 dX0_otherDots_32 (by decide) ?_
        have hj := lp_in h1 (by decide) c_7
        exact ih (j + 1) hj (by omega)
  refine aw_iconst hX (0) dX0_otherDots_0 (by decide) ?_
  refine aw_istore_n hX dX0_otherDots_1 (Nat.le_of_ble_eq_true rfl) ?_
  refine aw_iconst hX (0) dX0_otherDots_2 (by decide) ?_
  refine aw_istore_n hX dX0_otherDots_3 (Nat.le_of_ble_eq_true rfl) ?_
  exact loop 41 0 (by decide) (by decide)
theorem tX0_knownAgainst (l : Launch) (E : EV) (n : Nat) (H : HDots h d w sh ai st kn fl) {a : Nat} {p : IF} (ha : h a = some (cI 40 p)) : MX0_knownAgainst l E n h [.ref d, .ref a] (PR (.int (sumI (fun c => bcF ((p c ^^^ sh c) &&& kn c)) 40)) h) := by
  obtain ⟨e0, e1, e2, e3, e4, e5⟩ := H
  refine AM.intro mf_X0_knownAgainst (by simp [Value.category]) (Nat.le_of_ble_eq_true rfl) (fun X hl hE hnm hX => ?_)
  subst hl
  subst hE
  show AW X _ _ 0 0 0 [some (.ref d), some (.ref a), none, none, none] []
  have loop : ∀ (m j : Nat) (y : Option Value), j ≤ 40 → 40 - j < m → AW X n h 0 0 4 [some (.ref d), some (.ref a), some (.int (sumI (fun c => bcF ((p c ^^^ sh c) &&& kn c)) j)), some (.int (nI j)), y] [] := by
    intro m
    induction m with
    | zero => intro j y h1 h2; omega
    | succ m ih =>
      intro j y h1 h2
      refine aw_iload_n hX dX0_knownAgainst_4 rfl ?_
      refine aw_bipush hX (40) dX0_knownAgainst_5 (by decide) ?_
      refine aw_icmp_ge hX 49 dX0_knownAgainst_7 (by decide) (fun c_7 => ?_) (fun c_7 => ?_)
      · have hj : j = 40 := lp_out h1 (by decide) c_7
        subst hj
        refine aw_iload_n hX dX0_knownAgainst_49 rfl ?_
        exact aw_iret hX rfl rfl rfl rfl dX0_knownAgainst_50 ⟨rfl, rfl⟩
      · refine aw_iload_n hX dX0_knownAgainst_10 rfl ?_
        refine aw_aload_n hX dX0_knownAgainst_11 rfl ?_
        refine aw_alen hX _ (by assumption) (by decide) rfl dX0_knownAgainst_12 ?_
        refine aw_icmp_ge hX 49 dX0_knownAgainst_13 (by decide) (fun c_13 => ?_) (fun c_13 => ?_)
        · exact absurd c_13 (nI_ge (lp_in h1 (by decide) c_7) (by decide))
        · refine aw_aload_n hX dX0_knownAgainst_16 rfl ?_
          refine aw_iload_n hX dX0_knownAgainst_17 rfl ?_
          refine aw_ialdN hX (j) (by assumption) rfl (lp_in h1 (by decide) c_7) (by first | decide | assumption) dX0_knownAgainst_18 ?_
          refine aw_aload_n hX dX0_knownAgainst_19 rfl ?_
          refine gt_X0_15 hX dX0_knownAgainst_20 (by assumption) (by exact rfl) ?_
          refine aw_iload_n hX dX0_knownAgainst_23 rfl ?_
          refine aw_ialdN hX (j) (by assumption) rfl (lp_in h1 (by decide) c_7) (by first | decide | assumption) dX0_knownAgainst_24 ?_
          refine aw_ixor hX dX0_knownAgainst_25 ?_
          refine aw_istore hX dX0_knownAgainst_26 (Nat.le_of_ble_eq_true rfl) ?_
          refine aw_iload_n hX dX0_knownAgainst_28 rfl ?_
          refine aw_iload hX dX0_knownAgainst_29 rfl ?_
          refine aw_aload_n hX dX0_knownAgainst_31 rfl ?_
          refine gt_X0_25 hX dX0_knownAgainst_32 (by assumption) (by exact rfl) ?_
          refine aw_iload_n hX dX0_knownAgainst_35 rfl ?_
          refine aw_ialdN hX (j) (by assumption) rfl (lp_in h1 (by decide) c_7) (by first | decide | assumption) dX0_knownAgainst_36 ?_
          refine aw_iand hX dX0_knownAgainst_37 ?_
          refine aw_callSp hX RX0 rfl (tJ6_bitCount _ _ _ _ _) rfl mf_J6_bitCount_0f7a4 mt_J6_bitCount_0f7a4 kl_X0_49 rfl (by decide) (Nat.le_of_ble_eq_true rfl) dX0_knownAgainst_38 (by decide) ?_
          refine aw_iadd hX dX0_knownAgainst_41 ?_
          refine aw_istore_n hX dX0_knownAgainst_42 (Nat.le_of_ble_eq_true rfl) ?_
          refine aw_iinc hX (nI (j + 1)) dX0_knownAgainst_43 rfl (nI_1 j) ?_
          refine aw_goto hX 4 dX0_knownAgainst_46 (by decide) ?_
          have hj := lp_in h1 (by decide) c_7
          exact ih (j + 1) _ hj (by omega)
  refine aw_iconst hX (0) dX0_knownAgainst_0 (by decide) ?_
  refine aw_istore_n hX dX0_knownAgainst_1 (Nat.le_of_ble_eq_true rfl) ?_
  refine aw_iconst hX (0) dX0_knownAgainst_2 (by decide) ?_
  refine aw_istore_n hX dX0_knownAgainst_3 (Nat.le_of_ble_eq_true rfl) ?_
  exact loop 41 0 _ (by decide) (by decide)
theorem tX0_dueDots (l : Launch) (E : EV) (n : Nat) (H : HDots h d w sh ai st kn fl) : MX0_dueDots l E n h [.ref d] (PR (.int (sumI (fun c => bcF ((ai c ^^^ sh c) &&& (kn c ^^^ (-1)))) 40)) h) := by
  have e := H
  obtain ⟨e0, e1, e2, e3, e4, e5⟩ := H
  refine AM.intro mf_X0_dueDots (by simp [Value.category]) (Nat.le_of_ble_eq_true rfl) (fun X hl hE hnm hX => ?_)
  subst hl
  subst hE
  show AW X _ _ 0 0 0 [some (.ref d)] []
  refine aw_aload_n hX dX0_dueDots_0 rfl ?_
  refine aw_aload_n hX dX0_dueDots_1 rfl ?_
  refine gt_X0_19 hX dX0_dueDots_2 (by assumption) (by exact rfl) ?_
  refine aw_aload_n hX dX0_dueDots_5 rfl ?_
  refine gt_X0_15 hX dX0_dueDots_6 (by assumption) (by exact rfl) ?_
  refine aw_callVp hX RX0 rfl (tX0_differing _ _ _ e e2 e1) rfl mf_X0_differing mi_X0_differing ms_X0_differing kl_X0_45 (by assumption) rfl rfl (by decide) (Nat.le_of_ble_eq_true rfl) dX0_dueDots_9 (by decide) ?_
  exact aw_iret hX rfl rfl rfl rfl dX0_dueDots_12 (by exact ⟨rfl, rfl⟩)
theorem tX0_stuckDots (l : Launch) (E : EV) (n : Nat) (H : HDots h d w sh ai st kn fl) : MX0_stuckDots l E n h [.ref d] (PR (.int (sumI (fun c => bcF (st c)) 40)) h) := by
  obtain ⟨e0, e1, e2, e3, e4, e5⟩ := H
  refine AM.intro mf_X0_stuckDots (by simp [Value.category]) (Nat.le_of_ble_eq_true rfl) (fun X hl hE hnm hX => ?_)
  subst hl
  subst hE
  show AW X _ _ 0 0 0 [some (.ref d)] []
  refine aw_aload_n hX dX0_stuckDots_0 rfl ?_
  refine gt_X0_22 hX dX0_stuckDots_1 (by assumption) (by exact rfl) ?_
  refine aw_callSp hX RX0 rfl (tX0_dotsIn _ _ _ e3 (by decide)) rfl mf_X0_dotsIn mt_X0_dotsIn kl_X0_55 rfl (by decide) (Nat.le_of_ble_eq_true rfl) dX0_stuckDots_4 (by decide) ?_
  exact aw_iret hX rfl rfl rfl rfl dX0_stuckDots_7 (by exact ⟨rfl, rfl⟩)
theorem tX0_knownDots (l : Launch) (E : EV) (n : Nat) (H : HDots h d w sh ai st kn fl) : MX0_knownDots l E n h [.ref d] (PR (.int (sumI (fun c => bcF (kn c)) 40)) h) := by
  obtain ⟨e0, e1, e2, e3, e4, e5⟩ := H
  refine AM.intro mf_X0_knownDots (by simp [Value.category]) (Nat.le_of_ble_eq_true rfl) (fun X hl hE hnm hX => ?_)
  subst hl
  subst hE
  show AW X _ _ 0 0 0 [some (.ref d)] []
  refine aw_aload_n hX dX0_knownDots_0 rfl ?_
  refine gt_X0_25 hX dX0_knownDots_1 (by assumption) (by exact rfl) ?_
  refine aw_callSp hX RX0 rfl (tX0_dotsIn _ _ _ e4 (by decide)) rfl mf_X0_dotsIn mt_X0_dotsIn kl_X0_55 rfl (by decide) (Nat.le_of_ble_eq_true rfl) dX0_knownDots_4 (by decide) ?_
  exact aw_iret hX rfl rfl rfl rfl dX0_knownDots_7 (by exact ⟨rfl, rfl⟩)
variable {j i : Nat}
theorem tX0_hasDotIn (l : Launch) (E : EV) (n : Nat) (H : HDots h d w sh ai st kn fl) (hj : j < 40) (hw : nI j < w) (hi : i < 7) : MX0_hasDot l E n h [.ref d, .int (nI j), .int (nI i)] (PR (.int 1) h) := by
  have t := tX0_hasDot l E n H (nI j) (nI i)
  rw [bI_t ⟨⟨nI_pos' (by omega), hw, nI_lt hj (by decide)⟩, nI_pos' (by omega), nI_lt hi (by decide)⟩] at t
  exact t
theorem tX0_isStuck (l : Launch) (E : EV) (n : Nat) (H : HDots h d w sh ai st kn fl) (hj : j < 40) (hw : nI j < w) (hi : i < 7) : MX0_isStuck l E n h [.ref d, .int (nI j), .int (nI i)] (PR (.int (bI (¬ st j &&& mk i = 0))) h) := by
  have e := H
  obtain ⟨e0, e1, e2, e3, e4, e5⟩ := H
  refine AM.intro mf_X0_isStuck (by simp [Value.category]) (Nat.le_of_ble_eq_true rfl) (fun X hl hE hnm hX => ?_)
  subst hl
  subst hE
  show AW X _ _ 0 0 0 [some (.ref d), some (.int (nI j)), some (.int (nI i))] []
  refine aw_aload_n hX dX0_isStuck_0 rfl ?_
  refine aw_iload_n hX dX0_isStuck_1 rfl ?_
  refine aw_iload_n hX dX0_isStuck_2 rfl ?_
  refine aw_callVp hX RX0 rfl (tX0_hasDotIn _ _ _ e hj hw hi) rfl mf_X0_hasDot mi_X0_hasDot ms_X0_hasDot kl_X0_59 (by assumption) rfl rfl (by decide) (Nat.le_of_ble_eq_true rfl) dX0_isStuck_3 (by decide) ?_
  refine aw_if_eq hX 26 dX0_isStuck_6 (by decide) (fun c_6 => ?_) (fun c_6 => ?_)
  · exact absurd c_6 (by decide)
  · refine aw_aload_n hX dX0_isStuck_9 rfl ?_
    refine gt_X0_22 hX dX0_isStuck_10 (by assumption) (by exact rfl) ?_
    refine aw_iload_n hX dX0_isStuck_13 rfl ?_
    refine aw_ialdN hX (j) (by assumption) rfl hj (by first | decide | assumption) dX0_isStuck_14 ?_
    refine aw_iconst hX (1) dX0_isStuck_15 (by decide) ?_
    refine aw_iload_n hX dX0_isStuck_16 rfl ?_
    refine aw_ishl hX dX0_isStuck_17 ?_
    refine aw_iand hX dX0_isStuck_18 ?_
    refine aw_if_eq hX 26 dX0_isStuck_19 (by decide) (fun c_19 => ?_) (fun c_19 => ?_)
    · refine aw_iconst hX (0) dX0_isStuck_26 (by decide) ?_
      exact aw_zret hX rfl (by first | exact Or.inl rfl | exact Or.inr rfl | assumption) rfl rfl rfl dX0_isStuck_27 (by first | exact prT c_19 | exact prF (fun q => q c_19))
    · refine aw_iconst hX (1) dX0_isStuck_22 (by decide) ?_
      refine aw_goto hX 27 dX0_isStuck_23 (by decide) ?_
      exact aw_zret hX rfl (by first | exact Or.inl rfl | exact Or.inr rfl | assumption) rfl rfl rfl dX0_isStuck_27 (by first | exact prT c_19 | exact prF (fun q => q c_19))
theorem tX0_flipsOf (l : Launch) (E : EV) (n : Nat) (H : HDots h d w sh ai st kn fl) (hj : j < 40) (hw : nI j < w) (hi : i < 7) : MX0_flipsOf l E n h [.ref d, .int (nI j), .int (nI i)] (PR (.int (fl (j * 7 + i))) h) := by
  have e := H
  obtain ⟨e0, e1, e2, e3, e4, e5⟩ := H
  refine AM.intro mf_X0_flipsOf (by simp [Value.category]) (Nat.le_of_ble_eq_true rfl) (fun X hl hE hnm hX => ?_)
  subst hl
  subst hE
  show AW X _ _ 0 0 0 [some (.ref d), some (.int (nI j)), some (.int (nI i))] []
  refine aw_aload_n hX dX0_flipsOf_0 rfl ?_
  refine aw_iload_n hX dX0_flipsOf_1 rfl ?_
  refine aw_iload_n hX dX0_flipsOf_2 rfl ?_
  refine aw_callVp hX RX0 rfl (tX0_hasDotIn _ _ _ e hj hw hi) rfl mf_X0_hasDot mi_X0_hasDot ms_X0_hasDot kl_X0_59 (by assumption) rfl rfl (by decide) (Nat.le_of_ble_eq_true rfl) dX0_flipsOf_3 (by decide) ?_
  refine aw_if_eq hX 23 dX0_flipsOf_6 (by decide) (fun c_6 => ?_) (fun c_6 => ?_)
  · exact absurd c_6 (by decide)
  · refine aw_aload_n hX dX0_flipsOf_9 rfl ?_
    refine gt_X0_28 hX dX0_flipsOf_10 (by assumption) (by exact rfl) ?_
    refine aw_iload_n hX dX0_flipsOf_13 rfl ?_
    refine aw_bipush hX (7) dX0_flipsOf_14 (by decide) ?_
    refine aw_imul hX dX0_flipsOf_16 ?_
    refine aw_iload_n hX dX0_flipsOf_17 rfl ?_
    refine aw_iadd hX dX0_flipsOf_18 ?_
    refine aw_ialdN hX (j * 7 + i) (by assumption) (idx7 j i) (by omega) (by first | decide | assumption) dX0_flipsOf_19 ?_
    refine aw_goto hX 24 dX0_flipsOf_20 (by decide) ?_
    exact aw_iret hX rfl rfl rfl rfl dX0_flipsOf_24 (by exact ⟨rfl, rfl⟩)
theorem tX0_stick (l : Launch) (E : EV) (n : Nat) (H : HDots h d w sh ai st kn fl) (hj : j < 40) (hw : nI j < w) (hi : i < 7) : MX0_stick l E n h [.ref d, .int (nI j), .int (nI i)] (fun v h' => v = none ∧ HDots h' d w sh ai (upd st j (st j ||| mk i)) kn fl ∧ Sm d (d + 6) h h') := by
  have e := H
  obtain ⟨e0, e1, e2, e3, e4, e5⟩ := H
  refine AM.intro mf_X0_stick (by simp [Value.category]) (Nat.le_of_ble_eq_true rfl) (fun X hl hE hnm hX => ?_)
  subst hl
  subst hE
  show AW X _ _ 0 0 0 [some (.ref d), some (.int (nI j)), some (.int (nI i))] []
  refine aw_aload_n hX dX0_stick_0 rfl ?_
  refine aw_iload_n hX dX0_stick_1 rfl ?_
  refine aw_iload_n hX dX0_stick_2 rfl ?_
  refine aw_callVp hX RX0 rfl (tX0_hasDotIn _ _ _ e hj hw hi) rfl mf_X0_hasDot mi_X0_hasDot ms_X0_hasDot kl_X0_59 (by assumption) rfl rfl (by decide) (Nat.le_of_ble_eq_true rfl) dX0_stick_3 (by decide) ?_
  refine aw_if_eq hX 21 dX0_stick_6 (by decide) (fun c_6 => ?_) (fun c_6 => ?_)
  · exact absurd c_6 (by decide)
  · refine aw_aload_n hX dX0_stick_9 rfl ?_
    refine gt_X0_22 hX dX0_stick_10 (by assumption) (by exact rfl) ?_
    refine aw_iload_n hX dX0_stick_13 rfl ?_
    refine aw_dup2 hX dX0_stick_14 rfl rfl ?_
    refine aw_ialdN hX (j) (by assumption) rfl hj (by first | decide | assumption) dX0_stick_15 ?_
    refine aw_iconst hX (1) dX0_stick_16 (by decide) ?_
    refine aw_iload_n hX dX0_stick_17 rfl ?_
    refine aw_ishl hX dX0_stick_18 ?_
    refine aw_ior hX dX0_stick_19 ?_
    refine aw_iastN hX (j) (by assumption) rfl hj (by first | decide | assumption) dX0_stick_20 ?_
    exact aw_vret hX rfl rfl rfl rfl dX0_stick_21 (by exact ⟨rfl, e.a3 _, by repeat first | exact Sm.rf | refine Sm.set ?_ (by omega) (by omega)⟩)
theorem tX0_makeKnown (l : Launch) (E : EV) (n : Nat) (H : HDots h d w sh ai st kn fl) (hj : j < 40) (hw : nI j < w) (hi : i < 7) : MX0_makeKnown l E n h [.ref d, .int (nI j), .int (nI i)] (fun v h' => v = none ∧ HDots h' d w sh ai st (upd kn j (kn j ||| mk i)) fl ∧ Sm d (d + 6) h h') := by
  have e := H
  obtain ⟨e0, e1, e2, e3, e4, e5⟩ := H
  refine AM.intro mf_X0_makeKnown (by simp [Value.category]) (Nat.le_of_ble_eq_true rfl) (fun X hl hE hnm hX => ?_)
  subst hl
  subst hE
  show AW X _ _ 0 0 0 [some (.ref d), some (.int (nI j)), some (.int (nI i))] []
  refine aw_aload_n hX dX0_makeKnown_0 rfl ?_
  refine aw_iload_n hX dX0_makeKnown_1 rfl ?_
  refine aw_iload_n hX dX0_makeKnown_2 rfl ?_
  refine aw_callVp hX RX0 rfl (tX0_hasDotIn _ _ _ e hj hw hi) rfl mf_X0_hasDot mi_X0_hasDot ms_X0_hasDot kl_X0_59 (by assumption) rfl rfl (by decide) (Nat.le_of_ble_eq_true rfl) dX0_makeKnown_3 (by decide) ?_
  refine aw_if_eq hX 21 dX0_makeKnown_6 (by decide) (fun c_6 => ?_) (fun c_6 => ?_)
  · exact absurd c_6 (by decide)
  · refine aw_aload_n hX dX0_makeKnown_9 rfl ?_
    refine gt_X0_25 hX dX0_makeKnown_10 (by assumption) (by exact rfl) ?_
    refine aw_iload_n hX dX0_makeKnown_13 rfl ?_
    refine aw_dup2 hX dX0_makeKnown_14 rfl rfl ?_
    refine aw_ialdN hX (j) (by assumption) rfl hj (by first | decide | assumption) dX0_makeKnown_15 ?_
    refine aw_iconst hX (1) dX0_makeKnown_16 (by decide) ?_
    refine aw_iload_n hX dX0_makeKnown_17 rfl ?_
    refine aw_ishl hX dX0_makeKnown_18 ?_
    refine aw_ior hX dX0_makeKnown_19 ?_
    refine aw_iastN hX (j) (by assumption) rfl hj (by first | decide | assumption) dX0_makeKnown_20 ?_
    exact aw_vret hX rfl rfl rfl rfl dX0_makeKnown_21 (by exact ⟨rfl, e.a4 _, by repeat first | exact Sm.rf | refine Sm.set ?_ (by omega) (by omega)⟩)
theorem tX0_flip (l : Launch) (E : EV) (n : Nat) (H : HDots h d w sh ai st kn fl) (hj : j < 40) (hw : nI j < w) (hi : i < 7) : MX0_flip l E n h [.ref d, .int (nI j), .int (nI i)] (fun v h' => v = none ∧ HDots h' d w (upd sh j (sh j ^^^ mk i)) ai st kn (upd fl (j * 7 + i) (fl (j * 7 + i) + 1)) ∧ Sm d (d + 6) h h') := by
  have e := H
  obtain ⟨e0, e1, e2, e3, e4, e5⟩ := H
  refine AM.intro mf_X0_flip (by simp [Value.category]) (Nat.le_of_ble_eq_true rfl) (fun X hl hE hnm hX => ?_)
  subst hl
  subst hE
  show AW X _ _ 0 0 0 [some (.ref d), some (.int (nI j)), some (.int (nI i))] []
  refine aw_aload_n hX dX0_flip_0 rfl ?_
  refine aw_iload_n hX dX0_flip_1 rfl ?_
  refine aw_iload_n hX dX0_flip_2 rfl ?_
  refine aw_callVp hX RX0 rfl (tX0_hasDotIn _ _ _ e hj hw hi) rfl mf_X0_hasDot mi_X0_hasDot ms_X0_hasDot kl_X0_59 (by assumption) rfl rfl (by decide) (Nat.le_of_ble_eq_true rfl) dX0_flip_3 (by decide) ?_
  refine aw_if_eq hX 36 dX0_flip_6 (by decide) (fun c_6 => ?_) (fun c_6 => ?_)
  · exact absurd c_6 (by decide)
  · refine aw_aload_n hX dX0_flip_9 rfl ?_
    refine gt_X0_15 hX dX0_flip_10 (by assumption) (by exact rfl) ?_
    refine aw_iload_n hX dX0_flip_13 rfl ?_
    refine aw_dup2 hX dX0_flip_14 rfl rfl ?_
    refine aw_ialdN hX (j) (by assumption) rfl hj (by first | decide | assumption) dX0_flip_15 ?_
    refine aw_iconst hX (1) dX0_flip_16 (by decide) ?_
    refine aw_iload_n hX dX0_flip_17 rfl ?_
    refine aw_ishl hX dX0_flip_18 ?_
    refine aw_ixor hX dX0_flip_19 ?_
    refine aw_iastN hX (j) (by assumption) rfl hj (by first | decide | assumption) dX0_flip_20 ?_
    have e := e.a1 (upd sh j (sh j ^^^ mk i))
    obtain ⟨e0, e1, e2, e3, e4, e5⟩ := id e
    refine aw_aload_n hX dX0_flip_21 rfl ?_
    refine gt_X0_28 hX dX0_flip_22 (by assumption) (by exact rfl) ?_
    refine aw_iload_n hX dX0_flip_25 rfl ?_
    refine aw_bipush hX (7) dX0_flip_26 (by decide) ?_
    refine aw_imul hX dX0_flip_28 ?_
    refine aw_iload_n hX dX0_flip_29 rfl ?_
    refine aw_iadd hX dX0_flip_30 ?_
    refine aw_dup2 hX dX0_flip_31 rfl rfl ?_
    refine aw_ialdN hX (j * 7 + i) (by assumption) (idx7 j i) (by omega) (by first | decide | assumption) dX0_flip_32 ?_
    refine aw_iconst hX (1) dX0_flip_33 (by decide) ?_
    refine aw_iadd hX dX0_flip_34 ?_
    refine aw_iastN hX (j * 7 + i) (by assumption) (idx7 j i) (by omega) (by first | decide | assumption) dX0_flip_35 ?_
    exact aw_vret hX rfl rfl rfl rfl dX0_flip_36 (by exact ⟨rfl, e.a5 _, by repeat first | exact Sm.rf | refine Sm.set ?_ (by omega) (by omega)⟩)
theorem tX0_renewDot (l : Launch) (E : EV) (n : Nat) (H : HDots h d w sh ai st kn fl) (hj : j < 40) (hw : nI j < w) (hi : i < 7) : MX0_renewDot l E n h [.ref d, .int (nI j), .int (nI i)] (fun v h' => v = none ∧ HDots h' d w sh ai (upd st j (st j &&& (mk i ^^^ (-1)))) (upd kn j (kn j &&& (mk i ^^^ (-1)))) (upd fl (j * 7 + i) 0) ∧ Sm d (d + 6) h h') := by
  have e := H
  obtain ⟨e0, e1, e2, e3, e4, e5⟩ := H
  refine AM.intro mf_X0_renewDot (by simp [Value.category]) (Nat.le_of_ble_eq_true rfl) (fun X hl hE hnm hX => ?_)
  subst hl
  subst hE
  show AW X _ _ 0 0 0 [some (.ref d), some (.int (nI j)), some (.int (nI i))] []
  refine aw_aload_n hX dX0_renewDot_0 rfl ?_
  refine aw_iload_n hX dX0_renewDot_1 rfl ?_
  refine aw_iload_n hX dX0_renewDot_2 rfl ?_
  refine aw_callVp hX RX0 rfl (tX0_hasDotIn _ _ _ e hj hw hi) rfl mf_X0_hasDot mi_X0_hasDot ms_X0_hasDot kl_X0_59 (by assumption) rfl rfl (by decide) (Nat.le_of_ble_eq_true rfl) dX0_renewDot_3 (by decide) ?_
  refine aw_if_eq hX 49 dX0_renewDot_6 (by decide) (fun c_6 => ?_) (fun c_6 => ?_)
  · exact absurd c_6 (by decide)
  · refine aw_aload_n hX dX0_renewDot_9 rfl ?_
    refine gt_X0_22 hX dX0_renewDot_10 (by assumption) (by exact rfl) ?_
    refine aw_iload_n hX dX0_renewDot_13 rfl ?_
    refine aw_dup2 hX dX0_renewDot_14 rfl rfl ?_
    refine aw_ialdN hX (j) (by assumption) rfl hj (by first | decide | assumption) dX0_renewDot_15 ?_
    refine aw_iconst hX (1) dX0_renewDot_16 (by decide) ?_
    refine aw_iload_n hX dX0_renewDot_17 rfl ?_
    refine aw_ishl hX dX0_renewDot_18 ?_
    refine aw_iconst hX (-1) dX0_renewDot_19 (by decide) ?_
    refine aw_ixor hX dX0_renewDot_20 ?_
    refine aw_iand hX dX0_renewDot_21 ?_
    refine aw_iastN hX (j) (by assumption) rfl hj (by first | decide | assumption) dX0_renewDot_22 ?_
    have e := e.a3 (upd st j (st j &&& (mk i ^^^ (-1))))
    obtain ⟨e0, e1, e2, e3, e4, e5⟩ := id e
    refine aw_aload_n hX dX0_renewDot_23 rfl ?_
    refine gt_X0_25 hX dX0_renewDot_24 (by assumption) (by exact rfl) ?_
    refine aw_iload_n hX dX0_renewDot_27 rfl ?_
    refine aw_dup2 hX dX0_renewDot_28 rfl rfl ?_
    refine aw_ialdN hX (j) (by assumption) rfl hj (by first | decide | assumption) dX0_renewDot_29 ?_
    refine aw_iconst hX (1) dX0_renewDot_30 (by decide) ?_
    refine aw_iload_n hX dX0_renewDot_31 rfl ?_
    refine aw_ishl hX dX0_renewDot_32 ?_
    refine aw_iconst hX (-1) dX0_renewDot_33 (by decide) ?_
    refine aw_ixor hX dX0_renewDot_34 ?_
    refine aw_iand hX dX0_renewDot_35 ?_
    refine aw_iastN hX (j) (by assumption) rfl hj (by first | decide | assumption) dX0_renewDot_36 ?_
    have e := e.a4 (upd kn j (kn j &&& (mk i ^^^ (-1))))
    obtain ⟨e0, e1, e2, e3, e4, e5⟩ := id e
    refine aw_aload_n hX dX0_renewDot_37 rfl ?_
    refine gt_X0_28 hX dX0_renewDot_38 (by assumption) (by exact rfl) ?_
    refine aw_iload_n hX dX0_renewDot_41 rfl ?_
    refine aw_bipush hX (7) dX0_renewDot_42 (by decide) ?_
    refine aw_imul hX dX0_renewDot_44 ?_
    refine aw_iload_n hX dX0_renewDot_45 rfl ?_
    refine aw_iadd hX dX0_renewDot_46 ?_
    refine aw_iconst hX (0) dX0_renewDot_47 (by decide) ?_
    refine aw_iastN hX (j * 7 + i) (by assumption) (idx7 j i) (by omega) (by first | decide | assumption) dX0_renewDot_48 ?_
    exact aw_vret hX rfl rfl rfl rfl dX0_renewDot_49 (by exact ⟨rfl, e.a5 _, by repeat first | exact Sm.rf | refine Sm.set ?_ (by omega) (by omega)⟩)
end DOTS
