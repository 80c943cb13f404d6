/-! the board -/
abbrev FV : Type := PV × List PV × (Nat → Nat) × Nat
def HistL (h : HP) (q : Nat) (Hs : List PV) : Prop := ∃ (f : Nat) (vs : Nat → PV), f < 6 ∧ Hs.length ≤ 6 ∧ HHist h q f Hs.length vs ∧ ∀ i, i < Hs.length → Hs[i]? = some (vs ((f + i) % 6))
theorem HistL.sm {h h' : HP} {q lo hi : Nat} {Hs : List PV} (H : HistL h q Hs) (s : Sm lo hi h h') (hq : hi ≤ q ∨ q + 92 ≤ lo) : HistL h' q Hs := by
  obtain ⟨f, vs, h1, h2, h3, h4⟩ := H
  exact ⟨f, vs, h1, h2, h3.sm s hq, h4⟩
/-- the parts of the board that are used again and again: the trial, the reader, the orders -/
def HX (h : HP) (x : Nat) (tr : PV) (R : RV) (O : OV) : Prop := HState h (x + 16) tr ∧ HPaint h (x + 123) ∧ HFlip h (x + 126) ∧ HRead h (x + 128) R ∧ HOrd h (x + 134) O ∧ (R.2.2.2.1 < 26 ∧ R.2.2.2.2 ≤ 7) ∧ ∀ j, j < 6 → O.2.2.2.1 0 j = 0
abbrev oB (x tl : Nat) : AC := cO 9 [.ref (x + 1), .ref (x + 16), .ref (x + 31), .ref (x + 123), .ref (x + 126), .ref (x + 128), .ref (x + 134), .ref (x + 183), .int (nI tl)]
def HB (h : HP) (x : Nat) (B : FV) : Prop := h x = some (oB x B.2.2.2) ∧ HState h (x + 1) B.1 ∧ HistL h (x + 31) B.2.1 ∧ h (x + 183) = some (cI 120 (nF B.2.2.1)) ∧ ∃ tr R O, HX h x tr R O
def B0 : FV := (v0, [], fun _ => 0, 0)
theorem HB.sm {h h' : HP} {x lo hi : Nat} {B : FV} (H : HB h x B) (s : Sm lo hi h h') (hq : hi ≤ x ∨ x + 184 ≤ lo) : HB h' x B := by
  obtain ⟨h1, h2, h3, h4, tr, R, O, g1, g2, g3, g4, g5, g6⟩ := H
  exact ⟨(s.at (by omega)).trans h1, h2.sm s (by omega), h3.sm s (by omega), (s.at (by omega)).trans h4, tr, R, O, g1.sm s (by omega), g2.sm s (by omega), g3.sm s (by omega), g4.sm s (by omega), g5.sm s (by omega), g6⟩
section BOARD
variable {h : HP} {d : Nat}
theorem tX9_init (l : Launch) (E : EV) (e0 : h d = some (cO 9 [.null, .null, .null, .null, .null, .null, .null, .null, .int 0])) : MX9_init l E (d + 1) h [.ref d] (fun r h' => r = none ∧ HB h' d B0 ∧ Sm d (d + 184) h h') := by
  refine AM.intro mf_X9_init (by simp [Value.category]) (Nat.le_of_ble_eq_true rfl) (fun X hl hE hnm hX => ?_)
  subst hl
  subst hE
  show AW X _ _ 0 0 0 [some (.ref d)] []
  have sm : Sm d (d + 184) h h := Sm.rf
  refine aw_aload_n hX dX9_init_0 rfl ?_
  refine aw_obj hX RX9 rfl kl_X9_1 m_obj.1 m_obj.2 (by decide) (Nat.le_of_ble_eq_true rfl) dX9_init_1 ?_
  refine aw_aload_n hX dX9_init_4 rfl ?_
  refine aw_new hX RX9 rfl (C := RX8) (T := TX8) (N := 4) (ci := 8) (fs := [.null, .null, .null, .null]) rfl in_X8 tyX8 tyX8_ok kc_X9_7 ki_X8.1 ki_X8.2 (by decide +kernel) rfl (by first | decide | omega) (by first | decide | omega) dX9_init_5 ?_
  refine AW.gen (fun h_1 g_1 => ?_)
  have e0 := (congrFun g_1 (d)).trans ((hset_ne _ _ (by omega)).trans e0)
  have sm := sm.eqset g_1 (by omega) (by omega)
  have a_1 := (congrFun g_1 (d + 1)).trans (hset_eq _ _ _)
  refine aw_dup hX dX9_init_8 rfl ?_
  refine aw_callIN hX RX9 "FlipBoard" rfl (tX8_init _ _ a_1) rfl mf_X8_init mi_X8_init rfl kl_X9_9 rfl (by decide) (Nat.le_of_ble_eq_true rfl) dX9_init_9 (by first | decide | omega) (fun v_9 h_9 p_9 => ?_)
  obtain ⟨rfl, q1, s1⟩ := p_9
  have e0 := (s1.at (q := d) (by omega)).trans e0
  have sm := sm.tr s1 (by omega) (by omega)
  refine pf_X9_10 hX hnm dX9_init_12 (by assumption) (Nat.le_of_ble_eq_true rfl) ?_
  dsimp only [List.set_cons_zero, List.set_cons_succ]
  refine AW.gen (fun h_2 g_2 => ?_)
  have e0 := (congrFun g_2 (d)).trans (hset_eq _ _ _)
  have q1 := q1.sm (Sm.of_set g_2) (by omega)
  have sm := sm.eqset g_2 (by omega) (by omega)
  refine aw_aload_n hX dX9_init_15 rfl ?_
  refine aw_new hX RX9 rfl (C := RX8) (T := TX8) (N := 4) (ci := 8) (fs := [.null, .null, .null, .null]) rfl in_X8 tyX8 tyX8_ok kc_X9_7 ki_X8.1 ki_X8.2 (by decide +kernel) rfl (by first | decide | omega) (by first | decide | omega) dX9_init_16 ?_
  refine AW.gen (fun h_3 g_3 => ?_)
  have e0 := (congrFun g_3 (d)).trans ((hset_ne _ _ (by omega)).trans e0)
  have q1 := q1.sm (Sm.of_set g_3) (by omega)
  have sm := sm.eqset g_3 (by omega) (by omega)
  have a_16 := (congrFun g_3 (d + 16)).trans (hset_eq _ _ _)
  refine aw_dup hX dX9_init_19 rfl ?_
  refine aw_callIN hX RX9 "FlipBoard" rfl (tX8_init _ _ a_16) rfl mf_X8_init mi_X8_init rfl kl_X9_9 rfl (by decide) (Nat.le_of_ble_eq_true rfl) dX9_init_20 (by first | decide | omega) (fun v_20 h_20 p_20 => ?_)
  obtain ⟨rfl, q2, s2⟩ := p_20
  have e0 := (s2.at (q := d) (by omega)).trans e0
  have q1 := q1.sm s2 (by omega)
  have sm := sm.tr s2 (by omega) (by omega)
  refine pf_X9_16 hX hnm dX9_init_23 (by assumption) (Nat.le_of_ble_eq_true rfl) ?_
  dsimp only [List.set_cons_zero, List.set_cons_succ]
  refine AW.gen (fun h_4 g_4 => ?_)
  have e0 := (congrFun g_4 (d)).trans (hset_eq _ _ _)
  have q1 := q1.sm (Sm.of_set g_4) (by omega)
  have q2 := q2.sm (Sm.of_set g_4) (by omega)
  have sm := sm.eqset g_4 (by omega) (by omega)
  refine aw_aload_n hX dX9_init_26 rfl ?_
  refine aw_new hX RX9 rfl (C := RX2) (T := TX2) (N := 3) (ci := 2) (fs := [.null, .int 0, .int 0]) rfl in_X2 tyX2 tyX2_ok kc_X9_19 ki_X2.1 ki_X2.2 (by decide +kernel) rfl (by first | decide | omega) (by first | decide | omega) dX9_init_27 ?_
  refine AW.gen (fun h_5 g_5 => ?_)
  have e0 := (congrFun g_5 (d)).trans ((hset_ne _ _ (by omega)).trans e0)
  have q1 := q1.sm (Sm.of_set g_5) (by omega)
  have q2 := q2.sm (Sm.of_set g_5) (by omega)
  have sm := sm.eqset g_5 (by omega) (by omega)
  have a_31 := (congrFun g_5 (d + 31)).trans (hset_eq _ _ _)
  refine aw_dup hX dX9_init_30 rfl ?_
  refine aw_callI hX RX9 rfl (tX2_init _ _ a_31) rfl mf_X2_init mi_X2_init rfl kl_X9_21 rfl (by decide) (Nat.le_of_ble_eq_true rfl) dX9_init_31 (by first | decide | omega) (fun v_31 h_31 p_31 => ?_)
  obtain ⟨rfl, q3, s3⟩ := p_31
  have e0 := (s3.at (q := d) (by omega)).trans e0
  have q1 := q1.sm s3 (by omega)
  have q2 := q2.sm s3 (by omega)
  have sm := sm.tr s3 (by omega) (by omega)
  refine pf_X9_22 hX hnm dX9_init_34 (by assumption) (Nat.le_of_ble_eq_true rfl) ?_
  dsimp only [List.set_cons_zero, List.set_cons_succ]
  refine AW.gen (fun h_6 g_6 => ?_)
  have e0 := (congrFun g_6 (d)).trans (hset_eq _ _ _)
  have q1 := q1.sm (Sm.of_set g_6) (by omega)
  have q2 := q2.sm (Sm.of_set g_6) (by omega)
  have q3 := q3.sm (Sm.of_set g_6) (by omega)
  have sm := sm.eqset g_6 (by omega) (by omega)
  refine aw_aload_n hX dX9_init_37 rfl ?_
  refine aw_new hX RX9 rfl (C := RX5) (T := TX5) (N := 2) (ci := 5) (fs := [.null, .null]) rfl in_X5 tyX5 tyX5_ok kc_X9_26 ki_X5.1 ki_X5.2 (by decide +kernel) rfl (by first | decide | omega) (by first | decide | omega) dX9_init_38 ?_
  refine AW.gen (fun h_7 g_7 => ?_)
  have e0 := (congrFun g_7 (d)).trans ((hset_ne _ _ (by omega)).trans e0)
  have q1 := q1.sm (Sm.of_set g_7) (by omega)
  have q2 := q2.sm (Sm.of_set g_7) (by omega)
  have q3 := q3.sm (Sm.of_set g_7) (by omega)
  have sm := sm.eqset g_7 (by omega) (by omega)
  have a_123 := (congrFun g_7 (d + 123)).trans (hset_eq _ _ _)
  refine aw_dup hX dX9_init_41 rfl ?_
  refine aw_callIN hX RX9 "FlipBoard" rfl (tX5_init _ _ a_123) rfl mf_X5_init mi_X5_init rfl kl_X9_28 rfl (by decide) (Nat.le_of_ble_eq_true rfl) dX9_init_42 (by first | decide | omega) (fun v_42 h_42 p_42 => ?_)
  obtain ⟨rfl, q4, s4⟩ := p_42
  have e0 := (s4.at (q := d) (by omega)).trans e0
  have q1 := q1.sm s4 (by omega)
  have q2 := q2.sm s4 (by omega)
  have q3 := q3.sm s4 (by omega)
  have sm := sm.tr s4 (by omega) (by omega)
  refine pf_X9_29 hX hnm dX9_init_45 (by assumption) (Nat.le_of_ble_eq_true rfl) ?_
  dsimp only [List.set_cons_zero, List.set_cons_succ]
  refine AW.gen (fun h_8 g_8 => ?_)
  have e0 := (congrFun g_8 (d)).trans (hset_eq _ _ _)
  have q1 := q1.sm (Sm.of_set g_8) (by omega)
  have q2 := q2.sm (Sm.of_set g_8) (by omega)
  have q3 := q3.sm (Sm.of_set g_8) (by omega)
  have q4 := q4.sm (Sm.of_set g_8) (by omega)
  have sm := sm.eqset g_8 (by omega) (by omega)
  refine aw_aload_n hX dX9_init_48 rfl ?_
  refine aw_new hX RX9 rfl (C := RX1) (T := TX1) (N := 1) (ci := 1) (fs := [.null]) rfl in_X1 tyX1 tyX1_ok kc_X9_33 ki_X1.1 ki_X1.2 (by decide +kernel) rfl (by first | decide | omega) (by first | decide | omega) dX9_init_49 ?_
  refine AW.gen (fun h_9 g_9 => ?_)
  have e0 := (congrFun g_9 (d)).trans ((hset_ne _ _ (by omega)).trans e0)
  have q1 := q1.sm (Sm.of_set g_9) (by omega)
  have q2 := q2.sm (Sm.of_set g_9) (by omega)
  have q3 := q3.sm (Sm.of_set g_9) (by omega)
  have q4 := q4.sm (Sm.of_set g_9) (by omega)
  have sm := sm.eqset g_9 (by omega) (by omega)
  have a_126 := (congrFun g_9 (d + 126)).trans (hset_eq _ _ _)
  refine aw_dup hX dX9_init_52 rfl ?_
  refine aw_callIN hX RX9 "FlipBoard" rfl (tX1_init _ _ a_126) rfl mf_X1_init mi_X1_init rfl kl_X9_35 rfl (by decide) (Nat.le_of_ble_eq_true rfl) dX9_init_53 (by first | decide | omega) (fun v_53 h_53 p_53 => ?_)
  obtain ⟨rfl, q5, s5⟩ := p_53
  have e0 := (s5.at (q := d) (by omega)).trans e0
  have q1 := q1.sm s5 (by omega)
  have q2 := q2.sm s5 (by omega)
  have q3 := q3.sm s5 (by omega)
  have q4 := q4.sm s5 (by omega)
  have sm := sm.tr s5 (by omega) (by omega)
  refine pf_X9_36 hX hnm dX9_init_56 (by assumption) (Nat.le_of_ble_eq_true rfl) ?_
  dsimp only [List.set_cons_zero, List.set_cons_succ]
  refine AW.gen (fun h_10 g_10 => ?_)
  have e0 := (congrFun g_10 (d)).trans (hset_eq _ _ _)
  have q1 := q1.sm (Sm.of_set g_10) (by omega)
  have q2 := q2.sm (Sm.of_set g_10) (by omega)
  have q3 := q3.sm (Sm.of_set g_10) (by omega)
  have q4 := q4.sm (Sm.of_set g_10) (by omega)
  have q5 := q5.sm (Sm.of_set g_10) (by omega)
  have sm := sm.eqset g_10 (by omega) (by omega)
  refine aw_aload_n hX dX9_init_59 rfl ?_
  refine aw_new hX RX9 rfl (C := RX6) (T := TX6) (N := 5) (ci := 6) (fs := [.null, .int 0, .int 0, .int 0, .int 0]) rfl in_X6 tyX6 tyX6_ok kc_X9_40 ki_X6.1 ki_X6.2 (by decide +kernel) rfl (by first | decide | omega) (by first | decide | omega) dX9_init_60 ?_
  refine AW.gen (fun h_11 g_11 => ?_)
  have e0 := (congrFun g_11 (d)).trans ((hset_ne _ _ (by omega)).trans e0)
  have q1 := q1.sm (Sm.of_set g_11) (by omega)
  have q2 := q2.sm (Sm.of_set g_11) (by omega)
  have q3 := q3.sm (Sm.of_set g_11) (by omega)
  have q4 := q4.sm (Sm.of_set g_11) (by omega)
  have q5 := q5.sm (Sm.of_set g_11) (by omega)
  have sm := sm.eqset g_11 (by omega) (by omega)
  have a_128 := (congrFun g_11 (d + 128)).trans (hset_eq _ _ _)
  refine aw_dup hX dX9_init_63 rfl ?_
  refine aw_callIN hX RX9 "FlipBoard" rfl (tX6_init _ _ a_128) rfl mf_X6_init mi_X6_init rfl kl_X9_42 rfl (by decide) (Nat.le_of_ble_eq_true rfl) dX9_init_64 (by first | decide | omega) (fun v_64 h_64 p_64 => ?_)
  obtain ⟨rfl, q6, s6⟩ := p_64
  have e0 := (s6.at (q := d) (by omega)).trans e0
  have q1 := q1.sm s6 (by omega)
  have q2 := q2.sm s6 (by omega)
  have q3 := q3.sm s6 (by omega)
  have q4 := q4.sm s6 (by omega)
  have q5 := q5.sm s6 (by omega)
  have sm := sm.tr s6 (by omega) (by omega)
  refine pf_X9_43 hX hnm dX9_init_67 (by assumption) (Nat.le_of_ble_eq_true rfl) ?_
  dsimp only [List.set_cons_zero, List.set_cons_succ]
  refine AW.gen (fun h_12 g_12 => ?_)
  have e0 := (congrFun g_12 (d)).trans (hset_eq _ _ _)
  have q1 := q1.sm (Sm.of_set g_12) (by omega)
  have q2 := q2.sm (Sm.of_set g_12) (by omega)
  have q3 := q3.sm (Sm.of_set g_12) (by omega)
  have q4 := q4.sm (Sm.of_set g_12) (by omega)
  have q5 := q5.sm (Sm.of_set g_12) (by omega)
  have q6 := q6.sm (Sm.of_set g_12) (by omega)
  have sm := sm.eqset g_12 (by omega) (by omega)
  refine aw_aload_n hX dX9_init_70 rfl ?_
  refine aw_new hX RX9 rfl (C := RX4) (T := TX4) (N := 5) (ci := 4) (fs := [.null, .null, .null, .null, .int 0]) rfl in_X4 tyX4 tyX4_ok kc_X9_47 ki_X4.1 ki_X4.2 (by decide +kernel) rfl (by first | decide | omega) (by first | decide | omega) dX9_init_71 ?_
  refine AW.gen (fun h_13 g_13 => ?_)
  have e0 := (congrFun g_13 (d)).trans ((hset_ne _ _ (by omega)).trans e0)
  have q1 := q1.sm (Sm.of_set g_13) (by omega)
  have q2 := q2.sm (Sm.of_set g_13) (by omega)
  have q3 := q3.sm (Sm.of_set g_13) (by omega)
  have q4 := q4.sm (Sm.of_set g_13) (by omega)
  have q5 := q5.sm (Sm.of_set g_13) (by omega)
  have q6 := q6.sm (Sm.of_set g_13) (by omega)
  have sm := sm.eqset g_13 (by omega) (by omega)
  have a_134 := (congrFun g_13 (d + 134)).trans (hset_eq _ _ _)
  refine aw_dup hX dX9_init_74 rfl ?_
  refine aw_callIN hX RX9 "FlipBoard" rfl (tX4_init _ _ a_134) rfl mf_X4_init mi_X4_init rfl kl_X9_49 rfl (by decide) (Nat.le_of_ble_eq_true rfl) dX9_init_75 (by first | decide | omega) (fun v_75 h_75 p_75 => ?_)
  obtain ⟨rfl, q7, s7⟩ := p_75
  have e0 := (s7.at (q := d) (by omega)).trans e0
  have q1 := q1.sm s7 (by omega)
  have q2 := q2.sm s7 (by omega)
  have q3 := q3.sm s7 (by omega)
  have q4 := q4.sm s7 (by omega)
  have q5 := q5.sm s7 (by omega)
  have q6 := q6.sm s7 (by omega)
  have sm := sm.tr s7 (by omega) (by omega)
  refine pf_X9_50 hX hnm dX9_init_78 (by assumption) (Nat.le_of_ble_eq_true rfl) ?_
  dsimp only [List.set_cons_zero, List.set_cons_succ]
  refine AW.gen (fun h_14 g_14 => ?_)
  have e0 := (congrFun g_14 (d)).trans (hset_eq _ _ _)
  have q1 := q1.sm (Sm.of_set g_14) (by omega)
  have q2 := q2.sm (Sm.of_set g_14) (by omega)
  have q3 := q3.sm (Sm.of_set g_14) (by omega)
  have q4 := q4.sm (Sm.of_set g_14) (by omega)
  have q5 := q5.sm (Sm.of_set g_14) (by omega)
  have q6 := q6.sm (Sm.of_set g_14) (by omega)
  have q7 := q7.sm (Sm.of_set g_14) (by omega)
  have sm := sm.eqset g_14 (by omega) (by omega)
  refine aw_aload_n hX dX9_init_81 rfl ?_
  refine aw_bipush hX (120) dX9_init_82 (by decide) ?_
  refine aw_newarr hX 120 k_arr.1 (by decide) (by decide) (by decide) (by decide) (by decide) dX9_init_84 ?_
  refine AW.gen (fun h_15 g_15 => ?_)
  have e0 := (congrFun g_15 (d)).trans ((hset_ne _ _ (by omega)).trans e0)
  have q1 := q1.sm (Sm.of_set g_15) (by omega)
  have q2 := q2.sm (Sm.of_set g_15) (by omega)
  have q3 := q3.sm (Sm.of_set g_15) (by omega)
  have q4 := q4.sm (Sm.of_set g_15) (by omega)
  have q5 := q5.sm (Sm.of_set g_15) (by omega)
  have q6 := q6.sm (Sm.of_set g_15) (by omega)
  have q7 := q7.sm (Sm.of_set g_15) (by omega)
  have sm := sm.eqset g_15 (by omega) (by omega)
  have a_183 := (congrFun g_15 (d + 183)).trans (hset_eq _ _ _)
  refine pf_X9_54 hX hnm dX9_init_86 (by assumption) (Nat.le_of_ble_eq_true rfl) ?_
  dsimp only [List.set_cons_zero, List.set_cons_succ]
  refine AW.gen (fun h_16 g_16 => ?_)
  have e0 := (congrFun g_16 (d)).trans (hset_eq _ _ _)
  have a_183 := (congrFun g_16 (d + 183)).trans ((hset_ne _ _ (by omega)).trans a_183)
  have q1 := q1.sm (Sm.of_set g_16) (by omega)
  have q2 := q2.sm (Sm.of_set g_16) (by omega)
  have q3 := q3.sm (Sm.of_set g_16) (by omega)
  have q4 := q4.sm (Sm.of_set g_16) (by omega)
  have q5 := q5.sm (Sm.of_set g_16) (by omega)
  have q6 := q6.sm (Sm.of_set g_16) (by omega)
  have q7 := q7.sm (Sm.of_set g_16) (by omega)
  have sm := sm.eqset g_16 (by omega) (by omega)
  refine aw_aload_n hX dX9_init_89 rfl ?_
  refine aw_iconst hX (0) dX9_init_90 (by decide) ?_
  refine pt_X9_58 hX dX9_init_91 (by assumption) (Nat.le_of_ble_eq_true rfl) ?_
  dsimp only [List.set_cons_zero, List.set_cons_succ]
  refine AW.gen (fun h_17 g_17 => ?_)
  have e0 := (congrFun g_17 (d)).trans (hset_eq _ _ _)
  have a_183 := (congrFun g_17 (d + 183)).trans ((hset_ne _ _ (by omega)).trans a_183)
  have q1 := q1.sm (Sm.of_set g_17) (by omega)
  have q2 := q2.sm (Sm.of_set g_17) (by omega)
  have q3 := q3.sm (Sm.of_set g_17) (by omega)
  have q4 := q4.sm (Sm.of_set g_17) (by omega)
  have q5 := q5.sm (Sm.of_set g_17) (by omega)
  have q6 := q6.sm (Sm.of_set g_17) (by omega)
  have q7 := q7.sm (Sm.of_set g_17) (by omega)
  have sm := sm.eqset g_17 (by omega) (by omega)
  exact aw_vret hX rfl rfl rfl rfl dX9_init_94 (by exact ⟨rfl, ⟨e0, q1, ⟨0, fun _ => v0, by decide, by show 0 ≤ 6; decide, q3, fun i hi => absurd hi (Nat.not_lt_zero _)⟩, a_183, v0, _, _, q2, q4, q5, q6, q7, ⟨by show 0 < 26; decide, by show 0 ≤ 7; decide⟩, fun j hj => rfl⟩, sm⟩)
end BOARD
