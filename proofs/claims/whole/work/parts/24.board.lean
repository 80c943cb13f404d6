/-! the board -/
abbrev FV : Type := PV × List PV × (Nat → Nat) × Nat
def HistL (h : HP) (q : Nat) (Hs : List PV) : Prop := ∃ (f : Nat) (vs : Nat → PV), f < 6 ∧ Hs.length ≤ 6 ∧ HHist h q f Hs.length vs ∧ ∀ i, i < Hs.length → Hs[i]? = some (vs ((f + i) % 6))
theorem HistL.sm {h h' : HP} {q lo hi : Nat} {Hs : List PV} (H : HistL h q Hs) (s : Sm lo hi h h') (hq : hi ≤ q ∨ q + 92 ≤ lo) : HistL h' q Hs := by
  obtain ⟨f, vs, h1, h2, h3, h4⟩ := H
  exact ⟨f, vs, h1, h2, h3.sm s hq, h4⟩
/-- the parts of the board that are used again and again: the trial, the reader, the orders -/
def HX (h : HP) (x : Nat) (tr : PV) (R : RV) (O : OV) : Prop := HState h (x + 16) tr ∧ HPaint h (x + 123) ∧ HFlip h (x + 126) ∧ HRead h (x + 128) R ∧ HOrd h (x + 134) O ∧ (R.2.2.2.1 < 26 ∧ R.2.2.2.2 ≤ 7) ∧ ∀ j, j < 6 → O.2.2.2.1 0 j = 0
abbrev oB (x tl : Nat) : AC := cO 9 [.ref (x + 1), .ref (x + 16), .ref (x + 31), .ref (x + 123), .ref (x + 126), .ref (x + 128), .ref (x + 134), .ref (x + 183), .int (nI tl)]
def HB (h : HP) (x : Nat) (B : FV) : Prop := h x = some (oB x B.2.2.2) ∧ HState h (x + 1) B.1 ∧ HistL h (x + 31) B.2.1 ∧ h (x + 183) = some (cI 120 (nF B.2.2.1)) ∧ ∃ tr R O, HX h x tr R O
def B0 : FV := (v0, [], fun _ => 0, 0)
theorem HB.sm {h h' : HP} {x lo hi : Nat} {B : FV} (H : HB h x B) (s : Sm lo hi h h') (hq : hi ≤ x ∨ x + 184 ≤ lo) : HB h' x B := by
  obtain ⟨h1, h2, h3, h4, tr, R, O, g1, g2, g3, g4, g5, g6⟩ := H
  exact ⟨(s.at (by omega)).trans h1, h2.sm s (by omega), h3.sm s (by omega), (s.at (by omega)).trans h4, tr, R, O, g1.sm s (by omega), g2.sm s (by omega), g3.sm s (by omega), g4.sm s (by omega), g5.sm s (by omega), g6⟩
section BOARD
variable {h : HP} {d : Nat}
theorem tX9_init (l : Launch) (E : EV) (e0 : h d = some (cO 9 [.null, .null, .null, .null, .null, .null, .null, .null, .int 0])) : MX9_init l E (d + 1) h [.ref d] (fun r h' => r = none ∧ HB h' d B0 ∧ Sm d (d + 184) h h') := by
  refine AM.intro mf_X9_init (by simp [Value.category]) (Nat.le_of_ble_eq_true rfl) (fun X hl hE hnm hX => ?_)
  subst hl
  subst hE
  show AW X _ _ 0 0 0 [some (.ref d)] []
  have sm : Sm d (d + 184) h h := Sm.rf
  refine aw_aload_n hX dX9_init_0 rfl ?_
  refine aw_obj hX RX9 rfl kl_X9_1 m_obj.1 m_obj.2 (by decide) (Nat.le_of_ble_eq_true rfl) dX9_init_1 ?_
  refine aw_aload_n hX dX9_init_4 rfl ?_
  refine aw_new hX RX9 rfl (C := RX8) (T := TX8) (N := 4) (ci := 8) (fs := [.null, .null, .null, .null]) rfl in_X8 tyX8 tyX8_ok kc_X9_7 ki_X8.1 ki_X8.2 (by decide +kernel) rfl (by first | decide | omega) (by first | decide | omega) dX9_init_5 ?_
  refine AW.gen (fun h_1 g_1 => ?_)
  have e0 := (congrFun g_1 (d)).trans ((hset_ne _ _ (by omega)).trans e0)
  have sm := sm.eqset g_1 (by omega) (by omega)
  have a_1 := (congrFun g_1 (d + 1)).trans (hset_eq _ _ _)
  refine aw_dup hX dX9_init_8 rfl ?_
  refine aw_callIN hX RX9 "FlipBoard" rfl (tX8_init _ _ a_1) rfl mf_X8_init mi_X8_init rfl kl_X9_9 rfl (by decide) (Nat.le_of_ble_eq_true rfl) dX9_init_9 (by first | decide | omega) (fun v_9 h_9 p_9 => ?_)
  obtain ⟨rfl, q1, s1⟩ := p_9
  have e0 := (s1.at (q := d) (by omega)).trans e0
  have sm := sm.tr s1 (by omega) (by omega)
  refine pf_X9_10 hX hnm dX9_init_12 (by assumption) (Nat.le_of_ble_eq_true rfl) ?_
  dsimp only [List.set_cons_zero, List.set_cons_succ]
  refine AW.gen (fun h_2 g_2 => ?_)
  have e0 := (congrFun g_2 (d)).trans (hset_eq _ _ _)
  have q1 := q1.sm (Sm.of_set g_2) (by omega)
  have sm := sm.eqset g_2 (by omega) (by omega)
  refine aw_aload_n hX dX9_init_15 rfl ?_
  refine aw_new hX RX9 rfl (C := RX8) (T := TX8) (N := 4) (ci := 8) (fs := [.null, .null, .null, .null]) rfl in_X8 tyX8 tyX8_ok kc_X9_7 ki_X8.1 ki_X8.2 (by decide +kernel) rfl (by first | decide | omega) (by first | decide | omega) dX9_init_16 ?_
  refine AW.gen (fun h_3 g_3 => ?_)
  have e0 := (congrFun g_3 (d)).trans ((hset_ne _ _ (by omega)).trans e0)
  have q1 := q1.sm (Sm.of_set g_3) (by omega)
  have sm := sm.eqset g_3 (by omega) (by omega)
  have a_16 := (congrFun g_3 (d + 16)).trans (hset_eq _ _ _)
  refine aw_dup hX dX9_init_19 rfl ?_
  refine aw_callIN hX RX9 "FlipBoard" rfl (tX8_init _ _ a_16) rfl mf_X8_init mi_X8_init rfl kl_X9_9 rfl (by decide) (Nat.le_of_ble_eq_true rfl) dX9_init_20 (by first | decide | omega) (fun v_20 h_20 p_20 => ?_)
  obtain ⟨rfl, q2, s2⟩ := p_20
  have e0 := (s2.at (q := d) (by omega)).trans e0
  have q1 := q1.sm s2 (by omega)
  have sm := sm.tr s2 (by omega) (by omega)
  refine pf_X9_16 hX hnm dX9_init_23 (by assumption) (Nat.le_of_ble_eq_true rfl) ?_
  dsimp only [List.set_cons_zero, List.set_cons_succ]
  refine AW.gen (fun h_4 g_4 => ?_)
  have e0 := (congrFun g_4 (d)).trans (hset_eq _ _ _)
  have q1 := q1.sm (Sm.of_set g_4) (by omega)
  have q2 := q2.sm (Sm.of_set g_4) (by omega)
  have sm := sm.eqset g_4 (by omega) (by omega)
  refine aw_aload_n hX dX9_init_26 rfl ?_
  refine aw_new hX RX9 rfl (C := RX2) (T := TX2) (N := 3) (ci := 2) (fs := [.null, .int 0, .int 0]) rfl in_X2 tyX2 tyX2_ok kc_X9_19 ki_X2.1 ki_X2.2 (by decide +kernel) rfl (by first | decide | omega) (by first | decide | omega) dX9_init_27 ?_
  refine AW.gen (fun h_5 g_5 => ?_)
  have e0 := (congrFun g_5 (d)).trans ((hset_ne _ _ (by omega)).trans e0)
  have q1 := q1.sm (Sm.of_set g_5) (by omega)
  have q2 := q2.sm (Sm.of_set g_5) (by omega)
  have sm := sm.eqset g_5 (by omega) (by omega)
  have a_31 := (congrFun g_5 (d + 31)).trans (hset_eq _ _ _)
  refine aw_dup hX dX9_init_30 rfl ?_
  refine aw_callI hX RX9 rfl (tX2_init _ _ a_31) rfl mf_X2_init mi_X2_init rfl kl_X9_21 rfl (by decide) (Nat.le_of_ble_eq_true rfl) dX9_init_31 (by first | decide | omega) (fun v_31 h_31 p_31 => ?_)
  obtain ⟨rfl, q3, s3⟩ := p_31
  have e0 := (s3.at (q := d) (by omega)).trans e0
  have q1 := q1.sm s3 (by omega)
  have q2 := q2.sm s3 (by omega)
  have sm := sm.tr s3 (by omega) (by omega)
  refine pf_X9_22 hX hnm dX9_init_34 (by assumption) (Nat.le_of_ble_eq_true rfl) ?_
  dsimp only [List.set_cons_zero, List.set_cons_succ]
  refine AW.gen (fun h_6 g_6 => ?_)
  have e0 := (congrFun g_6 (d)).trans (hset_eq _ _ _)
  have q1 := q1.sm (Sm.of_set g_6) (by omega)
  have q2 := q2.sm (Sm.of_set g_6) (by omega)
  have q3 := q3.sm (Sm.of_set g_6) (by omega)
  have sm := sm.eqset g_6 (by omega) (by omega)
  refine aw_aload_n hX dX9_init_37 rfl ?_
  refine aw_new hX RX9 rfl (C := RX5) (T := TX5) (N := 2) (ci := 5) (fs := [.null, .null]) rfl in_X5 tyX5 tyX5_ok kc_X9_26 ki_X5.1 ki_X5.2 (by decide +kernel) rfl (by first | decide | omega) (by first | decide | omega) dX9_init_38 ?_
  refine AW.gen (fun h_7 g_7 => ?_)
  have e0 := (congrFun g_7 (d)).trans ((hset_ne _ _ (by omega)).trans e0)
  have q1 := q1.sm (Sm.of_set g_7) (by omega)
  have q2 := q2.sm (Sm.of_set g_7) (by omega)
  have q3 := q3.sm (Sm.of_set g_7) (by omega)
  have sm := sm.eqset g_7 (by omega) (by omega)
  have a_123 := (congrFun g_7 (d + 123)).trans (hset_eq _ _ _)
  refine aw_dup hX dX9_init_41 rfl ?_
  refine aw_callIN hX RX9 "FlipBoard" rfl (tX5_init _ _ a_123) rfl mf_X5_init mi_X5_init rfl kl_X9_28 rfl (by decide) (Nat.le_of_ble_eq_true rfl) dX9_init_42 (by first | decide | omega) (fun v_42 h_42 p_42 => ?_)
  obtain ⟨rfl, q4, s4⟩ := p_42
  have e0 := (s4.at (q := d) (by omega)).trans e0
  have q1 := q1.sm s4 (by omega)
  have q2 := q2.sm s4 (by omega)
  have q3 := q3.sm s4 (by omega)
  have sm := sm.tr s4 (by omega) (by omega)
  refine pf_X9_29 hX hnm dX9_init_45 (by assumption) (Nat.le_of_ble_eq_true rfl) ?_
  dsimp only [List.set_cons_zero, List.set_cons_succ]
  refine AW.gen (fun h_8 g_8 => ?_)
  have e0 := (congrFun g_8 (d)).trans (hset_eq _ _ _)
  have q1 := q1.sm (Sm.of_set g_8) (by omega)
  have q2 := q2.sm (Sm.of_set g_8) (by omega)
  have q3 := q3.sm (Sm.of_set g_8) (by omega)
  have q4 := q4.sm (Sm.of_set g_8) (by omega)
  have sm := sm.eqset g_8 (by omega) (by omega)
  refine aw_aload_n hX dX9_init_48 rfl ?_
  refine aw_new hX RX9 rfl (C := RX1) (T := TX1) (N := 1) (ci := 1) (fs := [.null]) rfl in_X1 tyX1 tyX1_ok kc_X9_33 ki_X1.1 ki_X1.2 (by decide +kernel) rfl (by first | decide | omega) (by first | decide | omega) dX9_init_49 ?_
  refine AW.gen (fun h_9 g_9 => ?_)
  have e0 := (congrFun g_9 (d)).trans ((hset_ne _ _ (by omega)).trans e0)
  have q1 := q1.sm (Sm.of_set g_9) (by omega)
  have q2 := q2.sm (Sm.of_set g_9) (by omega)
  have q3 := q3.sm (Sm.of_set g_9) (by omega)
  have q4 := q4.sm (Sm.of_set g_9) (by omega)
  have sm := sm.eqset g_9 (by omega) (by omega)
  have a_126 := (congrFun g_9 (d + 126)).trans (hset_eq _ _ _)
  refine aw_dup hX dX9_init_52 rfl ?_
  refine aw_callIN hX RX9 "FlipBoard" rfl (tX1_init _ _ a_126) rfl mf_X1_init mi_X1_init rfl kl_X9_35 rfl (by decide) (Nat.le_of_ble_eq_true rfl) dX9_init_53 (by first | decide | omega) (fun v_53 h_53 p_53 => ?_)
  obtain ⟨rfl, q5, s5⟩ := p_53
  have e0 := (s5.at (q := d) (by omega)).trans e0
  have q1 := q1.sm s5 (by omega)
  have q2 := q2.sm s5 (by omega)
  have q3 := q3.sm s5 (by omega)
  have q4 := q4.sm s5 (by omega)
  have sm := sm.tr s5 (by omega) (by omega)
  refine pf_X9_36 hX hnm dX9_init_56 (by assumption) (Nat.le_of_ble_eq_true rfl) ?_
  dsimp only [List.set_cons_zero, List.set_cons_succ]
  refine AW.gen (fun h_10 g_10 => ?_)
  have e0 := (congrFun g_10 (d)).trans (hset_eq _ _ _)
  have q1 := q1.sm (Sm.of_set g_10) (by omega)
  have q2 := q2.sm (Sm.of_set g_10) (by omega)
  have q3 := q3.sm (Sm.of_set g_10) (by omega)
  have q4 := q4.sm (Sm.of_set g_10) (by omega)
  have q5 := q5.sm (Sm.of_set g_10) (by omega)
  have sm := sm.eqset g_10 (by omega) (by omega)
  refine aw_aload_n hX dX9_init_59 rfl ?_
  refine aw_new hX RX9 rfl (C := RX6) (T := TX6) (N := 5) (ci := 6) (fs := [.null, .int 0, .int 0, .int 0, .int 0]) rfl in_X6 tyX6 tyX6_ok kc_X9_40 ki_X6.1 ki_X6.2 (by decide +kernel) rfl (by first | decide | omega) (by first | decide | omega) dX9_init_60 ?_
  refine AW.gen (fun h_11 g_11 => ?_)
  have e0 := (congrFun g_11 (d)).trans ((hset_ne _ _ (by omega)).trans e0)
  have q1 := q1.sm (Sm.of_set g_11) (by omega)
  have q2 := q2.sm (Sm.of_set g_11) (by omega)
  have q3 := q3.sm (Sm.of_set g_11) (by omega)
  have q4 := q4.sm (Sm.of_set g_11) (by omega)
  have q5 := q5.sm (Sm.of_set g_11) (by omega)
  have sm := sm.eqset g_11 (by omega) (by omega)
  have a_128 := (congrFun g_11 (d + 128)).trans (hset_eq _ _ _)
  refine aw_dup hX dX9_init_63 rfl ?_
  refine aw_callIN hX RX9 "FlipBoard" rfl (tX6_init _ _ a_128) rfl mf_X6_init mi_X6_init rfl kl_X9_42 rfl (by decide) (Nat.le_of_ble_eq_true rfl) dX9_init_64 (by first | decide | omega) (fun v_64 h_64 p_64 => ?_)
  obtain ⟨rfl, q6, s6⟩ := p_64
  have e0 := (s6.at (q := d) (by omega)).trans e0
  have q1 := q1.sm s6 (by omega)
  have q2 := q2.sm s6 (by omega)
  have q3 := q3.sm s6 (by omega)
  have q4 := q4.sm s6 (by omega)
  have q5 := q5.sm s6 (by omega)
  have sm := sm.tr s6 (by omega) (by omega)
  refine pf_X9_43 hX hnm dX9_init_67 (by assumption) (Nat.le_of_ble_eq_true rfl) ?_
  dsimp only [List.set_cons_zero, List.set_cons_succ]
  refine AW.gen (fun h_12 g_12 => ?_)
  have e0 := (congrFun g_12 (d)).trans (hset_eq _ _ _)
  have q1 := q1.sm (Sm.of_set g_12) (by omega)
  have q2 := q2.sm (Sm.of_set g_12) (by omega)
  have q3 := q3.sm (Sm.of_set g_12) (by omega)
  have q4 := q4.sm (Sm.of_set g_12) (by omega)
  have q5 := q5.sm (Sm.of_set g_12) (by omega)
  have q6 := q6.sm (Sm.of_set g_12) (by omega)
  have sm := sm.eqset g_12 (by omega) (by omega)
  refine aw_aload_n hX dX9_init_70 rfl ?_
  refine aw_new hX RX9 rfl (C := RX4) (T := TX4) (N := 5) (ci := 4) (fs := [.null, .null, .null, .null, .int 0]) rfl in_X4 tyX4 tyX4_ok kc_X9_47 ki_X4.1 ki_X4.2 (by decide +kernel) rfl (by first | decide | omega) (by first | decide | omega) dX9_init_71 ?_
  refine AW.gen (fun h_13 g_13 => ?_)
  have e0 := (congrFun g_13 (d)).trans ((hset_ne _ _ (by omega)).trans e0)
  have q1 := q1.sm (Sm.of_set g_13) (by omega)
  have q2 := q2.sm (Sm.of_set g_13) (by omega)
  have q3 := q3.sm (Sm.of_set g_13) (by omega)
  have q4 := q4.sm (Sm.of_set g_13) (by omega)
  have q5 := q5.sm (Sm.of_set g_13) (by omega)
  have q6 := q6.sm (Sm.of_set g_13) (by omega)
  have sm := sm.eqset g_13 (by omega) (by omega)
  have a_134 := (congrFun g_13 (d + 134)).trans (hset_eq _ _ _)
  refine aw_dup hX dX9_init_74 rfl ?_
  refine aw_callIN hX RX9 "FlipBoard" rfl (tX4_init _ _ a_134) rfl mf_X4_init mi_X4_init rfl kl_X9_49 rfl (by decide) (Nat.le_of_ble_eq_true rfl) dX9_init_75 (by first | decide | omega) (fun v_75 h_75 p_75 => ?_)
  obtain ⟨rfl, q7, s7⟩ := p_75
  have e0 := (s7.at (q := d) (by omega)).trans e0
  have q1 := q1.sm s7 (by omega)
  have q2 := q2.sm s7 (by omega)
  have q3 := q3.sm s7 (by omega)
  have q4 := q4.sm s7 (by omega)
  have q5 := q5.sm s7 (by omega)
  have q6 := q6.sm s7 (by omega)
  have sm := sm.tr s7 (by omega) (by omega)
  refine pf_X9_50 hX hnm dX9_init_78 (by assumption) (Nat.le_of_ble_eq_true rfl) ?_
  dsimp only [List.set_cons_zero, List.set_cons_succ]
  refine AW.gen (fun h_14 g_14 => ?_)
  have e0 := (congrFun g_14 (d)).trans (hset_eq _ _ _)
  have q1 := q1.sm (Sm.of_set g_14) (by omega)
  have q2 := q2.sm (Sm.of_set g_14) (by omega)
  have q3 := q3.sm (Sm.of_set g_14) (by omega)
  have q4 := q4.sm (Sm.of_set g_14) (by omega)
  have q5 := q5.sm (Sm.of_set g_14) (by omega)
  have q6 := q6.sm (Sm.of_set g_14) (by omega)
  have q7 := q7.sm (Sm.of_set g_14) (by omega)
  have sm := sm.eqset g_14 (by omega) (by omega)
  refine aw_aload_n hX dX9_init_81 rfl ?_
  refine aw_bipush hX (120) dX9_init_82 (by decide) ?_
  refine aw_newarr hX 120 k_arr.1 (by decide) (by decide) (by decide) (by decide) (by decide) dX9_init_84 ?_
  refine AW.gen (fun h_15 g_15 => ?_)
  have e0 := (congrFun g_15 (d)).trans ((hset_ne _ _ (by omega)).trans e0)
  have q1 := q1.sm (Sm.of_set g_15) (by omega)
  have q2 := q2.sm (Sm.of_set g_15) (by omega)
  have q3 := q3.sm (Sm.of_set g_15) (by omega)
  have q4 := q4.sm (Sm.of_set g_15) (by omega)
  have q5 := q5.sm (Sm.of_set g_15) (by omega)
  have q6 := q6.sm (Sm.of_set g_15) (by omega)
  have q7 := q7.sm (Sm.of_set g_15) (by omega)
  have sm := sm.eqset g_15 (by omega) (by omega)
  have a_183 := (congrFun g_15 (d + 183)).trans (hset_eq _ _ _)
  refine pf_X9_54 hX hnm dX9_init_86 (by assumption) (Nat.le_of_ble_eq_true rfl) ?_
  dsimp only [List.set_cons_zero, List.set_cons_succ]
  refine AW.gen (fun h_16 g_16 => ?_)
  have e0 := (congrFun g_16 (d)).trans (hset_eq _ _ _)
  have a_183 := (congrFun g_16 (d + 183)).trans ((hset_ne _ _ (by omega)).trans a_183)
  have q1 := q1.sm (Sm.of_set g_16) (by omega)
  have q2 := q2.sm (Sm.of_set g_16) (by omega)
  have q3 := q3.sm (Sm.of_set g_16) (by omega)
  have q4 := q4.sm (Sm.of_set g_16) (by omega)
  have q5 := q5.sm (Sm.of_set g_16) (by omega)
  have q6 := q6.sm (Sm.of_set g_16) (by omega)
  have q7 := q7.sm (Sm.of_set g_16) (by omega)
  have sm := sm.eqset g_16 (by omega) (by omega)
  refine aw_aload_n hX dX9_init_89 rfl ?_
  refine aw_iconst hX (0) dX9_init_90 (by decide) ?_
  refine pt_X9_58 hX dX9_init_91 (by assumption) (Nat.le_of_ble_eq_true rfl) ?_
  dsimp only [List.set_cons_zero, List.set_cons_succ]
  refine AW.gen (fun h_17 g_17 => ?_)
  have e0 := (congrFun g_17 (d)).trans (hset_eq _ _ _)
  have a_183 := (congrFun g_17 (d + 183)).trans ((hset_ne _ _ (by omega)).trans a_183)
  have q1 := q1.sm (Sm.of_set g_17) (by omega)
  have q2 := q2.sm (Sm.of_set g_17) (by omega)
  have q3 := q3.sm (Sm.of_set g_17) (by omega)
  have q4 := q4.sm (Sm.of_set g_17) (by omega)
  have q5 := q5.sm (Sm.of_set g_17) (by omega)
  have q6 := q6.sm (Sm.of_set g_17) (by omega)
  have q7 := q7.sm (Sm.of_set g_17) (by omega)
  have sm := sm.eqset g_17 (by omega) (by omega)
  exact aw_vret hX rfl rfl rfl rfl dX9_init_94 (by exact ⟨rfl, ⟨e0, q1, ⟨0, fun _ => v0, by decide, by show 0 ≤ 6; decide, q3, fun i hi => absurd hi (Nat.not_lt_zero _)⟩, a_183, v0, _, _, q2, q4, q5, q6, q7, ⟨by show 0 < 26; decide, by show 0 ≤ 7; decide⟩, fun j hj => rfl⟩, sm⟩)
end BOARD
/-! the reference: s, past, aside, kept, pasts, text, typed, picture, other, began, spot, order, bestOne, orderMany, firstFlips, flipsBetween -/
def HG (h : HP) (y : Nat) (s pa asi ke : IF) (ps : Nat) (tx : Nat → Nat) (ty : Nat) (pic oth beg : IF) (sp : Nat) (ord bes : IF) (om : Nat) (fi fb : IF) : Prop :=
  h y = some (cO 10 [.ref (y + 1), .ref (y + 2), .ref (y + 3), .ref (y + 4), .int (nI ps), .ref (y + 5), .int (nI ty), .ref (y + 6), .ref (y + 7), .ref (y + 8), .int (nI sp), .ref (y + 9), .ref (y + 10), .int (nI om), .ref (y + 11), .ref (y + 12)]) ∧
  h (y + 1) = some (cI 729 s) ∧ h (y + 2) = some (cI 4374 pa) ∧ h (y + 3) = some (cI 729 asi) ∧ h (y + 4) = some (cI 729 ke) ∧ h (y + 5) = some (cI 120 (nF tx)) ∧ h (y + 6) = some (cI 40 pic) ∧ h (y + 7) = some (cI 40 oth) ∧ h (y + 8) = some (cI 40 beg) ∧ h (y + 9) = some (cI 5 ord) ∧ h (y + 10) = some (cI 5 bes) ∧ h (y + 11) = some (cI 8 fi) ∧ h (y + 12) = some (cI 64 fb)
section MODEL
variable {h : HP} {d : Nat}
theorem tX10_init (l : Launch) (E : EV) (e0 : h d = some (cO 10 [.null, .null, .null, .null, .int 0, .null, .int 0, .null, .null, .null, .int 0, .null, .null, .int 0, .null, .null])) : MX10_init l E (d + 1) h [.ref d] (fun r h' => r = none ∧ HG h' d (upd (upd (upd (fun _ => 0) 0 20) 1 10) 3 100) (fun _ => 0) (fun _ => 0) (fun _ => 0) 0 (fun _ => 0) 0 (fun _ => 0) (fun _ => 0) (fun _ => 0) 0 (fun _ => 0) (fun _ => 0) 0 (fun _ => 0) (fun _ => 0) ∧ Sm d (d + 13) h h') := by
  refine AM.intro mf_X10_init (by simp [Value.category]) (Nat.le_of_ble_eq_true rfl) (fun X hl hE hnm hX => ?_)
  subst hl
  subst hE
  show AW X _ _ 0 0 0 [some (.ref d)] []
  have sm : Sm d (d + 13) h h := Sm.rf
  refine aw_aload_n hX dX10_init_0 rfl ?_
  refine aw_obj hX RX10 rfl kl_X10_1 m_obj.1 m_obj.2 (by decide) (Nat.le_of_ble_eq_true rfl) dX10_init_1 ?_
  refine aw_aload_n hX dX10_init_4 rfl ?_
  refine aw_sipush hX (729) dX10_init_5 (by decide) ?_
  refine aw_newarr hX 729 k_arr.1 (by decide) (by decide) (by decide) (by decide) (by decide) dX10_init_8 ?_
  refine AW.gen (fun h_1 g_1 => ?_)
  have e0 := (congrFun g_1 (d)).trans ((hset_ne _ _ (by omega)).trans e0)
  have sm := sm.eqset g_1 (by omega) (by omega)
  have a_1 := (congrFun g_1 (d + 1)).trans (hset_eq _ _ _)
  refine pf_X10_7 hX hnm dX10_init_10 (by assumption) (Nat.le_of_ble_eq_true rfl) ?_
  dsimp only [List.set_cons_zero, List.set_cons_succ]
  refine AW.gen (fun h_2 g_2 => ?_)
  have e0 := (congrFun g_2 (d)).trans (hset_eq _ _ _)
  have a_1 := (congrFun g_2 (d + 1)).trans ((hset_ne _ _ (by omega)).trans a_1)
  have sm := sm.eqset g_2 (by omega) (by omega)
  refine aw_aload_n hX dX10_init_13 rfl ?_
  refine aw_sipush hX (4374) dX10_init_14 (by decide) ?_
  refine aw_newarr hX 4374 k_arr.1 (by decide) (by decide) (by decide) (by decide) (by decide) dX10_init_17 ?_
  refine AW.gen (fun h_3 g_3 => ?_)
  have e0 := (congrFun g_3 (d)).trans ((hset_ne _ _ (by omega)).trans e0)
  have a_1 := (congrFun g_3 (d + 1)).trans ((hset_ne _ _ (by omega)).trans a_1)
  have sm := sm.eqset g_3 (by omega) (by omega)
  have a_2 := (congrFun g_3 (d + 2)).trans (hset_eq _ _ _)
  refine pf_X10_13 hX hnm dX10_init_19 (by assumption) (Nat.le_of_ble_eq_true rfl) ?_
  dsimp only [List.set_cons_zero, List.set_cons_succ]
  refine AW.gen (fun h_4 g_4 => ?_)
  have e0 := (congrFun g_4 (d)).trans (hset_eq _ _ _)
  have a_1 := (congrFun g_4 (d + 1)).trans ((hset_ne _ _ (by omega)).trans a_1)
  have a_2 := (congrFun g_4 (d + 2)).trans ((hset_ne _ _ (by omega)).trans a_2)
  have sm := sm.eqset g_4 (by omega) (by omega)
  refine aw_aload_n hX dX10_init_22 rfl ?_
  refine aw_sipush hX (729) dX10_init_23 (by decide) ?_
  refine aw_newarr hX 729 k_arr.1 (by decide) (by decide) (by decide) (by decide) (by decide) dX10_init_26 ?_
  refine AW.gen (fun h_5 g_5 => ?_)
  have e0 := (congrFun g_5 (d)).trans ((hset_ne _ _ (by omega)).trans e0)
  have a_1 := (congrFun g_5 (d + 1)).trans ((hset_ne _ _ (by omega)).trans a_1)
  have a_2 := (congrFun g_5 (d + 2)).trans ((hset_ne _ _ (by omega)).trans a_2)
  have sm := sm.eqset g_5 (by omega) (by omega)
  have a_3 := (congrFun g_5 (d + 3)).trans (hset_eq _ _ _)
  refine pf_X10_16 hX hnm dX10_init_28 (by assumption) (Nat.le_of_ble_eq_true rfl) ?_
  dsimp only [List.set_cons_zero, List.set_cons_succ]
  refine AW.gen (fun h_6 g_6 => ?_)
  have e0 := (congrFun g_6 (d)).trans (hset_eq _ _ _)
  have a_1 := (congrFun g_6 (d + 1)).trans ((hset_ne _ _ (by omega)).trans a_1)
  have a_2 := (congrFun g_6 (d + 2)).trans ((hset_ne _ _ (by omega)).trans a_2)
  have a_3 := (congrFun g_6 (d + 3)).trans ((hset_ne _ _ (by omega)).trans a_3)
  have sm := sm.eqset g_6 (by omega) (by omega)
  refine aw_aload_n hX dX10_init_31 rfl ?_
  refine aw_sipush hX (729) dX10_init_32 (by decide) ?_
  refine aw_newarr hX 729 k_arr.1 (by decide) (by decide) (by decide) (by decide) (by decide) dX10_init_35 ?_
  refine AW.gen (fun h_7 g_7 => ?_)
  have e0 := (congrFun g_7 (d)).trans ((hset_ne _ _ (by omega)).trans e0)
  have a_1 := (congrFun g_7 (d + 1)).trans ((hset_ne _ _ (by omega)).trans a_1)
  have a_2 := (congrFun g_7 (d + 2)).trans ((hset_ne _ _ (by omega)).trans a_2)
  have a_3 := (congrFun g_7 (d + 3)).trans ((hset_ne _ _ (by omega)).trans a_3)
  have sm := sm.eqset g_7 (by omega) (by omega)
  have a_4 := (congrFun g_7 (d + 4)).trans (hset_eq _ _ _)
  refine pf_X10_19 hX hnm dX10_init_37 (by assumption) (Nat.le_of_ble_eq_true rfl) ?_
  dsimp only [List.set_cons_zero, List.set_cons_succ]
  refine AW.gen (fun h_8 g_8 => ?_)
  have e0 := (congrFun g_8 (d)).trans (hset_eq _ _ _)
  have a_1 := (congrFun g_8 (d + 1)).trans ((hset_ne _ _ (by omega)).trans a_1)
  have a_2 := (congrFun g_8 (d + 2)).trans ((hset_ne _ _ (by omega)).trans a_2)
  have a_3 := (congrFun g_8 (d + 3)).trans ((hset_ne _ _ (by omega)).trans a_3)
  have a_4 := (congrFun g_8 (d + 4)).trans ((hset_ne _ _ (by omega)).trans a_4)
  have sm := sm.eqset g_8 (by omega) (by omega)
  refine aw_aload_n hX dX10_init_40 rfl ?_
  refine aw_bipush hX (120) dX10_init_41 (by decide) ?_
  refine aw_newarr hX 120 k_arr.1 (by decide) (by decide) (by decide) (by decide) (by decide) dX10_init_43 ?_
  refine AW.gen (fun h_9 g_9 => ?_)
  have e0 := (congrFun g_9 (d)).trans ((hset_ne _ _ (by omega)).trans e0)
  have a_1 := (congrFun g_9 (d + 1)).trans ((hset_ne _ _ (by omega)).trans a_1)
  have a_2 := (congrFun g_9 (d + 2)).trans ((hset_ne _ _ (by omega)).trans a_2)
  have a_3 := (congrFun g_9 (d + 3)).trans ((hset_ne _ _ (by omega)).trans a_3)
  have a_4 := (congrFun g_9 (d + 4)).trans ((hset_ne _ _ (by omega)).trans a_4)
  have sm := sm.eqset g_9 (by omega) (by omega)
  have a_5 := (congrFun g_9 (d + 5)).trans (hset_eq _ _ _)
  refine pf_X10_22 hX hnm dX10_init_45 (by assumption) (Nat.le_of_ble_eq_true rfl) ?_
  dsimp only [List.set_cons_zero, List.set_cons_succ]
  refine AW.gen (fun h_10 g_10 => ?_)
  have e0 := (congrFun g_10 (d)).trans (hset_eq _ _ _)
  have a_1 := (congrFun g_10 (d + 1)).trans ((hset_ne _ _ (by omega)).trans a_1)
  have a_2 := (congrFun g_10 (d + 2)).trans ((hset_ne _ _ (by omega)).trans a_2)
  have a_3 := (congrFun g_10 (d + 3)).trans ((hset_ne _ _ (by omega)).trans a_3)
  have a_4 := (congrFun g_10 (d + 4)).trans ((hset_ne _ _ (by omega)).trans a_4)
  have a_5 := (congrFun g_10 (d + 5)).trans ((hset_ne _ _ (by omega)).trans a_5)
  have sm := sm.eqset g_10 (by omega) (by omega)
  refine aw_aload_n hX dX10_init_48 rfl ?_
  refine aw_bipush hX (40) dX10_init_49 (by decide) ?_
  refine aw_newarr hX 40 k_arr.1 (by decide) (by decide) (by decide) (by decide) (by decide) dX10_init_51 ?_
  refine AW.gen (fun h_11 g_11 => ?_)
  have e0 := (congrFun g_11 (d)).trans ((hset_ne _ _ (by omega)).trans e0)
  have a_1 := (congrFun g_11 (d + 1)).trans ((hset_ne _ _ (by omega)).trans a_1)
  have a_2 := (congrFun g_11 (d + 2)).trans ((hset_ne _ _ (by omega)).trans a_2)
  have a_3 := (congrFun g_11 (d + 3)).trans ((hset_ne _ _ (by omega)).trans a_3)
  have a_4 := (congrFun g_11 (d + 4)).trans ((hset_ne _ _ (by omega)).trans a_4)
  have a_5 := (congrFun g_11 (d + 5)).trans ((hset_ne _ _ (by omega)).trans a_5)
  have sm := sm.eqset g_11 (by omega) (by omega)
  have a_6 := (congrFun g_11 (d + 6)).trans (hset_eq _ _ _)
  refine pf_X10_25 hX hnm dX10_init_53 (by assumption) (Nat.le_of_ble_eq_true rfl) ?_
  dsimp only [List.set_cons_zero, List.set_cons_succ]
  refine AW.gen (fun h_12 g_12 => ?_)
  have e0 := (congrFun g_12 (d)).trans (hset_eq _ _ _)
  have a_1 := (congrFun g_12 (d + 1)).trans ((hset_ne _ _ (by omega)).trans a_1)
  have a_2 := (congrFun g_12 (d + 2)).trans ((hset_ne _ _ (by omega)).trans a_2)
  have a_3 := (congrFun g_12 (d + 3)).trans ((hset_ne _ _ (by omega)).trans a_3)
  have a_4 := (congrFun g_12 (d + 4)).trans ((hset_ne _ _ (by omega)).trans a_4)
  have a_5 := (congrFun g_12 (d + 5)).trans ((hset_ne _ _ (by omega)).trans a_5)
  have a_6 := (congrFun g_12 (d + 6)).trans ((hset_ne _ _ (by omega)).trans a_6)
  have sm := sm.eqset g_12 (by omega) (by omega)
  refine aw_aload_n hX dX10_init_56 rfl ?_
  refine aw_bipush hX (40) dX10_init_57 (by decide) ?_
  refine aw_newarr hX 40 k_arr.1 (by decide) (by decide) (by decide) (by decide) (by decide) dX10_init_59 ?_
  refine AW.gen (fun h_13 g_13 => ?_)
  have e0 := (congrFun g_13 (d)).trans ((hset_ne _ _ (by omega)).trans e0)
  have a_1 := (congrFun g_13 (d + 1)).trans ((hset_ne _ _ (by omega)).trans a_1)
  have a_2 := (congrFun g_13 (d + 2)).trans ((hset_ne _ _ (by omega)).trans a_2)
  have a_3 := (congrFun g_13 (d + 3)).trans ((hset_ne _ _ (by omega)).trans a_3)
  have a_4 := (congrFun g_13 (d + 4)).trans ((hset_ne _ _ (by omega)).trans a_4)
  have a_5 := (congrFun g_13 (d + 5)).trans ((hset_ne _ _ (by omega)).trans a_5)
  have a_6 := (congrFun g_13 (d + 6)).trans ((hset_ne _ _ (by omega)).trans a_6)
  have sm := sm.eqset g_13 (by omega) (by omega)
  have a_7 := (congrFun g_13 (d + 7)).trans (hset_eq _ _ _)
  refine pf_X10_28 hX hnm dX10_init_61 (by assumption) (Nat.le_of_ble_eq_true rfl) ?_
  dsimp only [List.set_cons_zero, List.set_cons_succ]
  refine AW.gen (fun h_14 g_14 => ?_)
  have e0 := (congrFun g_14 (d)).trans (hset_eq _ _ _)
  have a_1 := (congrFun g_14 (d + 1)).trans ((hset_ne _ _ (by omega)).trans a_1)
  have a_2 := (congrFun g_14 (d + 2)).trans ((hset_ne _ _ (by omega)).trans a_2)
  have a_3 := (congrFun g_14 (d + 3)).trans ((hset_ne _ _ (by omega)).trans a_3)
  have a_4 := (congrFun g_14 (d + 4)).trans ((hset_ne _ _ (by omega)).trans a_4)
  have a_5 := (congrFun g_14 (d + 5)).trans ((hset_ne _ _ (by omega)).trans a_5)
  have a_6 := (congrFun g_14 (d + 6)).trans ((hset_ne _ _ (by omega)).trans a_6)
  have a_7 := (congrFun g_14 (d + 7)).trans ((hset_ne _ _ (by omega)).trans a_7)
  have sm := sm.eqset g_14 (by omega) (by omega)
  refine aw_aload_n hX dX10_init_64 rfl ?_
  refine aw_bipush hX (40) dX10_init_65 (by decide) ?_
  refine aw_newarr hX 40 k_arr.1 (by decide) (by decide) (by decide) (by decide) (by decide) dX10_init_67 ?_
  refine AW.gen (fun h_15 g_15 => ?_)
  have e0 := (congrFun g_15 (d)).trans ((hset_ne _ _ (by omega)).trans e0)
  have a_1 := (congrFun g_15 (d + 1)).trans ((hset_ne _ _ (by omega)).trans a_1)
  have a_2 := (congrFun g_15 (d + 2)).trans ((hset_ne _ _ (by omega)).trans a_2)
  have a_3 := (congrFun g_15 (d + 3)).trans ((hset_ne _ _ (by omega)).trans a_3)
  have a_4 := (congrFun g_15 (d + 4)).trans ((hset_ne _ _ (by omega)).trans a_4)
  have a_5 := (congrFun g_15 (d + 5)).trans ((hset_ne _ _ (by omega)).trans a_5)
  have a_6 := (congrFun g_15 (d + 6)).trans ((hset_ne _ _ (by omega)).trans a_6)
  have a_7 := (congrFun g_15 (d + 7)).trans ((hset_ne _ _ (by omega)).trans a_7)
  have sm := sm.eqset g_15 (by omega) (by omega)
  have a_8 := (congrFun g_15 (d + 8)).trans (hset_eq _ _ _)
  refine pf_X10_31 hX hnm dX10_init_69 (by assumption) (Nat.le_of_ble_eq_true rfl) ?_
  dsimp only [List.set_cons_zero, List.set_cons_succ]
  refine AW.gen (fun h_16 g_16 => ?_)
  have e0 := (congrFun g_16 (d)).trans (hset_eq _ _ _)
  have a_1 := (congrFun g_16 (d + 1)).trans ((hset_ne _ _ (by omega)).trans a_1)
  have a_2 := (congrFun g_16 (d + 2)).trans ((hset_ne _ _ (by omega)).trans a_2)
  have a_3 := (congrFun g_16 (d + 3)).trans ((hset_ne _ _ (by omega)).trans a_3)
  have a_4 := (congrFun g_16 (d + 4)).trans ((hset_ne _ _ (by omega)).trans a_4)
  have a_5 := (congrFun g_16 (d + 5)).trans ((hset_ne _ _ (by omega)).trans a_5)
  have a_6 := (congrFun g_16 (d + 6)).trans ((hset_ne _ _ (by omega)).trans a_6)
  have a_7 := (congrFun g_16 (d + 7)).trans ((hset_ne _ _ (by omega)).trans a_7)
  have a_8 := (congrFun g_16 (d + 8)).trans ((hset_ne _ _ (by omega)).trans a_8)
  have sm := sm.eqset g_16 (by omega) (by omega)
  refine aw_aload_n hX dX10_init_72 rfl ?_
  refine aw_iconst hX (5) dX10_init_73 (by decide) ?_
  refine aw_newarr hX 5 k_arr.1 (by decide) (by decide) (by decide) (by decide) (by decide) dX10_init_74 ?_
  refine AW.gen (fun h_17 g_17 => ?_)
  have e0 := (congrFun g_17 (d)).trans ((hset_ne _ _ (by omega)).trans e0)
  have a_1 := (congrFun g_17 (d + 1)).trans ((hset_ne _ _ (by omega)).trans a_1)
  have a_2 := (congrFun g_17 (d + 2)).trans ((hset_ne _ _ (by omega)).trans a_2)
  have a_3 := (congrFun g_17 (d + 3)).trans ((hset_ne _ _ (by omega)).trans a_3)
  have a_4 := (congrFun g_17 (d + 4)).trans ((hset_ne _ _ (by omega)).trans a_4)
  have a_5 := (congrFun g_17 (d + 5)).trans ((hset_ne _ _ (by omega)).trans a_5)
  have a_6 := (congrFun g_17 (d + 6)).trans ((hset_ne _ _ (by omega)).trans a_6)
  have a_7 := (congrFun g_17 (d + 7)).trans ((hset_ne _ _ (by omega)).trans a_7)
  have a_8 := (congrFun g_17 (d + 8)).trans ((hset_ne _ _ (by omega)).trans a_8)
  have sm := sm.eqset g_17 (by omega) (by omega)
  have a_9 := (congrFun g_17 (d + 9)).trans (hset_eq _ _ _)
  refine pf_X10_34 hX hnm dX10_init_76 (by assumption) (Nat.le_of_ble_eq_true rfl) ?_
  dsimp only [List.set_cons_zero, List.set_cons_succ]
  refine AW.gen (fun h_18 g_18 => ?_)
  have e0 := (congrFun g_18 (d)).trans (hset_eq _ _ _)
  have a_1 := (congrFun g_18 (d + 1)).trans ((hset_ne _ _ (by omega)).trans a_1)
  have a_2 := (congrFun g_18 (d + 2)).trans ((hset_ne _ _ (by omega)).trans a_2)
  have a_3 := (congrFun g_18 (d + 3)).trans ((hset_ne _ _ (by omega)).trans a_3)
  have a_4 := (congrFun g_18 (d + 4)).trans ((hset_ne _ _ (by omega)).trans a_4)
  have a_5 := (congrFun g_18 (d + 5)).trans ((hset_ne _ _ (by omega)).trans a_5)
  have a_6 := (congrFun g_18 (d + 6)).trans ((hset_ne _ _ (by omega)).trans a_6)
  have a_7 := (congrFun g_18 (d + 7)).trans ((hset_ne _ _ (by omega)).trans a_7)
  have a_8 := (congrFun g_18 (d + 8)).trans ((hset_ne _ _ (by omega)).trans a_8)
  have a_9 := (congrFun g_18 (d + 9)).trans ((hset_ne _ _ (by omega)).trans a_9)
  have sm := sm.eqset g_18 (by omega) (by omega)
  refine aw_aload_n hX dX10_init_79 rfl ?_
  refine aw_iconst hX (5) dX10_init_80 (by decide) ?_
  refine aw_newarr hX 5 k_arr.1 (by decide) (by decide) (by decide) (by decide) (by decide) dX10_init_81 ?_
  refine AW.gen (fun h_19 g_19 => ?_)
  have e0 := (congrFun g_19 (d)).trans ((hset_ne _ _ (by omega)).trans e0)
  have a_1 := (congrFun g_19 (d + 1)).trans ((hset_ne _ _ (by omega)).trans a_1)
  have a_2 := (congrFun g_19 (d + 2)).trans ((hset_ne _ _ (by omega)).trans a_2)
  have a_3 := (congrFun g_19 (d + 3)).trans ((hset_ne _ _ (by omega)).trans a_3)
  have a_4 := (congrFun g_19 (d + 4)).trans ((hset_ne _ _ (by omega)).trans a_4)
  have a_5 := (congrFun g_19 (d + 5)).trans ((hset_ne _ _ (by omega)).trans a_5)
  have a_6 := (congrFun g_19 (d + 6)).trans ((hset_ne _ _ (by omega)).trans a_6)
  have a_7 := (congrFun g_19 (d + 7)).trans ((hset_ne _ _ (by omega)).trans a_7)
  have a_8 := (congrFun g_19 (d + 8)).trans ((hset_ne _ _ (by omega)).trans a_8)
  have a_9 := (congrFun g_19 (d + 9)).trans ((hset_ne _ _ (by omega)).trans a_9)
  have sm := sm.eqset g_19 (by omega) (by omega)
  have a_10 := (congrFun g_19 (d + 10)).trans (hset_eq _ _ _)
  refine pf_X10_37 hX hnm dX10_init_83 (by assumption) (Nat.le_of_ble_eq_true rfl) ?_
  dsimp only [List.set_cons_zero, List.set_cons_succ]
  refine AW.gen (fun h_20 g_20 => ?_)
  have e0 := (congrFun g_20 (d)).trans (hset_eq _ _ _)
  have a_1 := (congrFun g_20 (d + 1)).trans ((hset_ne _ _ (by omega)).trans a_1)
  have a_2 := (congrFun g_20 (d + 2)).trans ((hset_ne _ _ (by omega)).trans a_2)
  have a_3 := (congrFun g_20 (d + 3)).trans ((hset_ne _ _ (by omega)).trans a_3)
  have a_4 := (congrFun g_20 (d + 4)).trans ((hset_ne _ _ (by omega)).trans a_4)
  have a_5 := (congrFun g_20 (d + 5)).trans ((hset_ne _ _ (by omega)).trans a_5)
  have a_6 := (congrFun g_20 (d + 6)).trans ((hset_ne _ _ (by omega)).trans a_6)
  have a_7 := (congrFun g_20 (d + 7)).trans ((hset_ne _ _ (by omega)).trans a_7)
  have a_8 := (congrFun g_20 (d + 8)).trans ((hset_ne _ _ (by omega)).trans a_8)
  have a_9 := (congrFun g_20 (d + 9)).trans ((hset_ne _ _ (by omega)).trans a_9)
  have a_10 := (congrFun g_20 (d + 10)).trans ((hset_ne _ _ (by omega)).trans a_10)
  have sm := sm.eqset g_20 (by omega) (by omega)
  refine aw_aload_n hX dX10_init_86 rfl ?_
  refine aw_bipush hX (8) dX10_init_87 (by decide) ?_
  refine aw_newarr hX 8 k_arr.1 (by decide) (by decide) (by decide) (by decide) (by decide) dX10_init_89 ?_
  refine AW.gen (fun h_21 g_21 => ?_)
  have e0 := (congrFun g_21 (d)).trans ((hset_ne _ _ (by omega)).trans e0)
  have a_1 := (congrFun g_21 (d + 1)).trans ((hset_ne _ _ (by omega)).trans a_1)
  have a_2 := (congrFun g_21 (d + 2)).trans ((hset_ne _ _ (by omega)).trans a_2)
  have a_3 := (congrFun g_21 (d + 3)).trans ((hset_ne _ _ (by omega)).trans a_3)
  have a_4 := (congrFun g_21 (d + 4)).trans ((hset_ne _ _ (by omega)).trans a_4)
  have a_5 := (congrFun g_21 (d + 5)).trans ((hset_ne _ _ (by omega)).trans a_5)
  have a_6 := (congrFun g_21 (d + 6)).trans ((hset_ne _ _ (by omega)).trans a_6)
  have a_7 := (congrFun g_21 (d + 7)).trans ((hset_ne _ _ (by omega)).trans a_7)
  have a_8 := (congrFun g_21 (d + 8)).trans ((hset_ne _ _ (by omega)).trans a_8)
  have a_9 := (congrFun g_21 (d + 9)).trans ((hset_ne _ _ (by omega)).trans a_9)
  have a_10 := (congrFun g_21 (d + 10)).trans ((hset_ne _ _ (by omega)).trans a_10)
  have sm := sm.eqset g_21 (by omega) (by omega)
  have a_11 := (congrFun g_21 (d + 11)).trans (hset_eq _ _ _)
  refine pf_X10_40 hX hnm dX10_init_91 (by assumption) (Nat.le_of_ble_eq_true rfl) ?_
  dsimp only [List.set_cons_zero, List.set_cons_succ]
  refine AW.gen (fun h_22 g_22 => ?_)
  have e0 := (congrFun g_22 (d)).trans (hset_eq _ _ _)
  have a_1 := (congrFun g_22 (d + 1)).trans ((hset_ne _ _ (by omega)).trans a_1)
  have a_2 := (congrFun g_22 (d + 2)).trans ((hset_ne _ _ (by omega)).trans a_2)
  have a_3 := (congrFun g_22 (d + 3)).trans ((hset_ne _ _ (by omega)).trans a_3)
  have a_4 := (congrFun g_22 (d + 4)).trans ((hset_ne _ _ (by omega)).trans a_4)
  have a_5 := (congrFun g_22 (d + 5)).trans ((hset_ne _ _ (by omega)).trans a_5)
  have a_6 := (congrFun g_22 (d + 6)).trans ((hset_ne _ _ (by omega)).trans a_6)
  have a_7 := (congrFun g_22 (d + 7)).trans ((hset_ne _ _ (by omega)).trans a_7)
  have a_8 := (congrFun g_22 (d + 8)).trans ((hset_ne _ _ (by omega)).trans a_8)
  have a_9 := (congrFun g_22 (d + 9)).trans ((hset_ne _ _ (by omega)).trans a_9)
  have a_10 := (congrFun g_22 (d + 10)).trans ((hset_ne _ _ (by omega)).trans a_10)
  have a_11 := (congrFun g_22 (d + 11)).trans ((hset_ne _ _ (by omega)).trans a_11)
  have sm := sm.eqset g_22 (by omega) (by omega)
  refine aw_aload_n hX dX10_init_94 rfl ?_
  refine aw_bipush hX (64) dX10_init_95 (by decide) ?_
  refine aw_newarr hX 64 k_arr.1 (by decide) (by decide) (by decide) (by decide) (by decide) dX10_init_97 ?_
  refine AW.gen (fun h_23 g_23 => ?_)
  have e0 := (congrFun g_23 (d)).trans ((hset_ne _ _ (by omega)).trans e0)
  have a_1 := (congrFun g_23 (d + 1)).trans ((hset_ne _ _ (by omega)).trans a_1)
  have a_2 := (congrFun g_23 (d + 2)).trans ((hset_ne _ _ (by omega)).trans a_2)
  have a_3 := (congrFun g_23 (d + 3)).trans ((hset_ne _ _ (by omega)).trans a_3)
  have a_4 := (congrFun g_23 (d + 4)).trans ((hset_ne _ _ (by omega)).trans a_4)
  have a_5 := (congrFun g_23 (d + 5)).trans ((hset_ne _ _ (by omega)).trans a_5)
  have a_6 := (congrFun g_23 (d + 6)).trans ((hset_ne _ _ (by omega)).trans a_6)
  have a_7 := (congrFun g_23 (d + 7)).trans ((hset_ne _ _ (by omega)).trans a_7)
  have a_8 := (congrFun g_23 (d + 8)).trans ((hset_ne _ _ (by omega)).trans a_8)
  have a_9 := (congrFun g_23 (d + 9)).trans ((hset_ne _ _ (by omega)).trans a_9)
  have a_10 := (congrFun g_23 (d + 10)).trans ((hset_ne _ _ (by omega)).trans a_10)
  have a_11 := (congrFun g_23 (d + 11)).trans ((hset_ne _ _ (by omega)).trans a_11)
  have sm := sm.eqset g_23 (by omega) (by omega)
  have a_12 := (congrFun g_23 (d + 12)).trans (hset_eq _ _ _)
  refine pf_X10_43 hX hnm dX10_init_99 (by assumption) (Nat.le_of_ble_eq_true rfl) ?_
  dsimp only [List.set_cons_zero, List.set_cons_succ]
  refine AW.gen (fun h_24 g_24 => ?_)
  have e0 := (congrFun g_24 (d)).trans (hset_eq _ _ _)
  have a_1 := (congrFun g_24 (d + 1)).trans ((hset_ne _ _ (by omega)).trans a_1)
  have a_2 := (congrFun g_24 (d + 2)).trans ((hset_ne _ _ (by omega)).trans a_2)
  have a_3 := (congrFun g_24 (d + 3)).trans ((hset_ne _ _ (by omega)).trans a_3)
  have a_4 := (congrFun g_24 (d + 4)).trans ((hset_ne _ _ (by omega)).trans a_4)
  have a_5 := (congrFun g_24 (d + 5)).trans ((hset_ne _ _ (by omega)).trans a_5)
  have a_6 := (congrFun g_24 (d + 6)).trans ((hset_ne _ _ (by omega)).trans a_6)
  have a_7 := (congrFun g_24 (d + 7)).trans ((hset_ne _ _ (by omega)).trans a_7)
  have a_8 := (congrFun g_24 (d + 8)).trans ((hset_ne _ _ (by omega)).trans a_8)
  have a_9 := (congrFun g_24 (d + 9)).trans ((hset_ne _ _ (by omega)).trans a_9)
  have a_10 := (congrFun g_24 (d + 10)).trans ((hset_ne _ _ (by omega)).trans a_10)
  have a_11 := (congrFun g_24 (d + 11)).trans ((hset_ne _ _ (by omega)).trans a_11)
  have a_12 := (congrFun g_24 (d + 12)).trans ((hset_ne _ _ (by omega)).trans a_12)
  have sm := sm.eqset g_24 (by omega) (by omega)
  refine aw_aload_n hX dX10_init_102 rfl ?_
  refine gt_X10_7 hX dX10_init_103 (by assumption) (by exact rfl) ?_
  refine aw_iconst hX (0) dX10_init_106 (by decide) ?_
  refine aw_bipush hX (20) dX10_init_107 (by decide) ?_
  refine aw_iastN hX (0) (by assumption) rfl (by decide) (by first | decide | assumption) dX10_init_109 ?_
  refine AW.gen (fun h_25 g_25 => ?_)
  have e0 := (congrFun g_25 (d)).trans ((hset_ne _ _ (by omega)).trans e0)
  have a_1 := (congrFun g_25 (d + 1)).trans (hset_eq _ _ _)
  have a_2 := (congrFun g_25 (d + 2)).trans ((hset_ne _ _ (by omega)).trans a_2)
  have a_3 := (congrFun g_25 (d + 3)).trans ((hset_ne _ _ (by omega)).trans a_3)
  have a_4 := (congrFun g_25 (d + 4)).trans ((hset_ne _ _ (by omega)).trans a_4)
  have a_5 := (congrFun g_25 (d + 5)).trans ((hset_ne _ _ (by omega)).trans a_5)
  have a_6 := (congrFun g_25 (d + 6)).trans ((hset_ne _ _ (by omega)).trans a_6)
  have a_7 := (congrFun g_25 (d + 7)).trans ((hset_ne _ _ (by omega)).trans a_7)
  have a_8 := (congrFun g_25 (d + 8)).trans ((hset_ne _ _ (by omega)).trans a_8)
  have a_9 := (congrFun g_25 (d + 9)).trans ((hset_ne _ _ (by omega)).trans a_9)
  have a_10 := (congrFun g_25 (d + 10)).trans ((hset_ne _ _ (by omega)).trans a_10)
  have a_11 := (congrFun g_25 (d + 11)).trans ((hset_ne _ _ (by omega)).trans a_11)
  have a_12 := (congrFun g_25 (d + 12)).trans ((hset_ne _ _ (by omega)).trans a_12)
  have sm := sm.eqset g_25 (by omega) (by omega)
  refine aw_aload_n hX dX10_init_110 rfl ?_
  refine gt_X10_7 hX dX10_init_111 (by assumption) (by exact rfl) ?_
  refine aw_iconst hX (1) dX10_init_114 (by decide) ?_
  refine aw_bipush hX (10) dX10_init_115 (by decide) ?_
  refine aw_iastN hX (1) (by assumption) rfl (by decide) (by first | decide | assumption) dX10_init_117 ?_
  refine AW.gen (fun h_26 g_26 => ?_)
  have e0 := (congrFun g_26 (d)).trans ((hset_ne _ _ (by omega)).trans e0)
  have a_1 := (congrFun g_26 (d + 1)).trans (hset_eq _ _ _)
  have a_2 := (congrFun g_26 (d + 2)).trans ((hset_ne _ _ (by omega)).trans a_2)
  have a_3 := (congrFun g_26 (d + 3)).trans ((hset_ne _ _ (by omega)).trans a_3)
  have a_4 := (congrFun g_26 (d + 4)).trans ((hset_ne _ _ (by omega)).trans a_4)
  have a_5 := (congrFun g_26 (d + 5)).trans ((hset_ne _ _ (by omega)).trans a_5)
  have a_6 := (congrFun g_26 (d + 6)).trans ((hset_ne _ _ (by omega)).trans a_6)
  have a_7 := (congrFun g_26 (d + 7)).trans ((hset_ne _ _ (by omega)).trans a_7)
  have a_8 := (congrFun g_26 (d + 8)).trans ((hset_ne _ _ (by omega)).trans a_8)
  have a_9 := (congrFun g_26 (d + 9)).trans ((hset_ne _ _ (by omega)).trans a_9)
  have a_10 := (congrFun g_26 (d + 10)).trans ((hset_ne _ _ (by omega)).trans a_10)
  have a_11 := (congrFun g_26 (d + 11)).trans ((hset_ne _ _ (by omega)).trans a_11)
  have a_12 := (congrFun g_26 (d + 12)).trans ((hset_ne _ _ (by omega)).trans a_12)
  have sm := sm.eqset g_26 (by omega) (by omega)
  refine aw_aload_n hX dX10_init_118 rfl ?_
  refine gt_X10_7 hX dX10_init_119 (by assumption) (by exact rfl) ?_
  refine aw_iconst hX (3) dX10_init_122 (by decide) ?_
  refine aw_bipush hX (100) dX10_init_123 (by decide) ?_
  refine aw_iastN hX (3) (by assumption) rfl (by decide) (by first | decide | assumption) dX10_init_125 ?_
  refine AW.gen (fun h_27 g_27 => ?_)
  have e0 := (congrFun g_27 (d)).trans ((hset_ne _ _ (by omega)).trans e0)
  have a_1 := (congrFun g_27 (d + 1)).trans (hset_eq _ _ _)
  have a_2 := (congrFun g_27 (d + 2)).trans ((hset_ne _ _ (by omega)).trans a_2)
  have a_3 := (congrFun g_27 (d + 3)).trans ((hset_ne _ _ (by omega)).trans a_3)
  have a_4 := (congrFun g_27 (d + 4)).trans ((hset_ne _ _ (by omega)).trans a_4)
  have a_5 := (congrFun g_27 (d + 5)).trans ((hset_ne _ _ (by omega)).trans a_5)
  have a_6 := (congrFun g_27 (d + 6)).trans ((hset_ne _ _ (by omega)).trans a_6)
  have a_7 := (congrFun g_27 (d + 7)).trans ((hset_ne _ _ (by omega)).trans a_7)
  have a_8 := (congrFun g_27 (d + 8)).trans ((hset_ne _ _ (by omega)).trans a_8)
  have a_9 := (congrFun g_27 (d + 9)).trans ((hset_ne _ _ (by omega)).trans a_9)
  have a_10 := (congrFun g_27 (d + 10)).trans ((hset_ne _ _ (by omega)).trans a_10)
  have a_11 := (congrFun g_27 (d + 11)).trans ((hset_ne _ _ (by omega)).trans a_11)
  have a_12 := (congrFun g_27 (d + 12)).trans ((hset_ne _ _ (by omega)).trans a_12)
  have sm := sm.eqset g_27 (by omega) (by omega)
  exact aw_vret hX rfl rfl rfl rfl dX10_init_126 (by exact ⟨rfl, ⟨e0, a_1, a_2, a_3, a_4, a_5, a_6, a_7, a_8, a_9, a_10, a_11, a_12⟩, sm⟩)
end MODEL
