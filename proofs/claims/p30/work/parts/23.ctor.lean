/-! constructors -/
theorem AW.gen {X : CX} {n : Nat} {h : HP} {k sl pc : Nat} {L : List (Option Value)} {st : List Value} (kk : ∀ h', h' = h → AW X n h' k sl pc L st) : AW X n h k sl pc L st := kk h rfl
theorem hmna_lo {h : HP} {n N K q : Nat} (hq : q < n ∨ n + N < q) : hmna h n N K q = h q := by
  unfold hmna
  rw [if_neg (by omega), if_neg (by omega)]
theorem hmna_o (h : HP) (n N K : Nat) : hmna h n N K n = some (cG 1 N (fun i => if i < N then some (n + 1 + i) else none)) := if_pos rfl
theorem hmna_i {N : Nat} {h : HP} {n K : Nat} (i : Nat) (hi : i < N) : hmna h n N K (n + 1 + i) = some (cI K (fun _ => 0)) := by
  unfold hmna
  rw [if_neg (by omega), if_pos (by omega)]
theorem Sm.of_set {h h' : HP} {a : Nat} {c : AC} (g : h' = hset h a c) : Sm a (a + 1) h h' := fun q hq => (congrFun g q).trans (hset_ne _ _ (by omega))
theorem Sm.eqset {lo hi a : Nat} {h h' h2 : HP} {c : AC} (s : Sm lo hi h h') (g : h2 = hset h' a c) (h1 : lo ≤ a) (h3 : a < hi) : Sm lo hi h h2 := fun q hq => (congrFun g q).trans ((hset_ne _ _ (by omega)).trans (s q hq))
theorem Sm.eqmna {lo hi n N K : Nat} {h h' h2 : HP} (s : Sm lo hi h h') (g : h2 = hmna h' n N K) (h1 : lo ≤ n) (h3 : n + N < hi) : Sm lo hi h h2 := fun q hq => (congrFun g q).trans ((hmna_lo (by omega)).trans (s q hq))
theorem AW.cast {X : CX} {n n' : Nat} {h : HP} {k k' sl sl' pc : Nat} {L : List (Option Value)} {st : List Value} (h1 : n = n') (h2 : k = k') (h3 : sl = sl') (kk : AW X n' h k' sl' pc L st) : AW X n h k sl pc L st := by
  rw [h1, h2, h3]
  exact kk
section CTOR
variable {h : HP} {d : Nat}
theorem tX0_init (l : Launch) (E : EV) (e0 : h d = some (cO 0 [.int 0, .null, .null, .null, .null, .null])) : MX0_init l E (d + 1) h [.ref d] (fun r h' => r = none ∧ HD h' d (nI 20, fun _ => 0, fun _ => 0, fun _ => 0, fun _ => 0, fun _ => 0) ∧ Sm d (d + 6) h h') := by
  refine AM.intro mf_X0_init (by simp [Value.category]) (Nat.le_of_ble_eq_true rfl) (fun X hl hE hnm hX => ?_)
  subst hl
  subst hE
  show AW X _ _ 0 0 0 [some (.ref d)] []
  have sm : Sm d (d + 6) h h := Sm.rf
  refine aw_aload_n hX dX0_init_0 rfl ?_
  refine aw_obj hX RX0 rfl kl_X0_3 m_obj.1 m_obj.2 (by decide) (Nat.le_of_ble_eq_true rfl) dX0_init_1 ?_
  refine aw_aload_n hX dX0_init_4 rfl ?_
  refine aw_bipush hX (20) dX0_init_5 (by decide) ?_
  refine pt_X0_9 hX dX0_init_7 (by assumption) (Nat.le_of_ble_eq_true rfl) ?_
  dsimp only [List.set_cons_zero, List.set_cons_succ]
  refine AW.gen (fun h_1 g_1 => ?_)
  have e0 := (congrFun g_1 (d)).trans (hset_eq _ _ _)
  have sm := sm.eqset g_1 (by omega) (by omega)
  refine aw_aload_n hX dX0_init_10 rfl ?_
  refine aw_bipush hX (40) dX0_init_11 (by decide) ?_
  refine aw_newarr hX 40 k_arr.1 (by decide) (by decide) (by decide) (by decide) (by decide) dX0_init_13 ?_
  refine AW.gen (fun h_2 g_2 => ?_)
  have e0 := (congrFun g_2 (d)).trans ((hset_ne _ _ (by omega)).trans e0)
  have sm := sm.eqset g_2 (by omega) (by omega)
  have a_1 := (congrFun g_2 (d + 1)).trans (hset_eq _ _ _)
  refine pf_X0_15 hX hnm dX0_init_15 (by assumption) (Nat.le_of_ble_eq_true rfl) ?_
  dsimp only [List.set_cons_zero, List.set_cons_succ]
  refine AW.gen (fun h_3 g_3 => ?_)
  have e0 := (congrFun g_3 (d)).trans (hset_eq _ _ _)
  have a_1 := (congrFun g_3 (d + 1)).trans ((hset_ne _ _ (by omega)).trans a_1)
  have sm := sm.eqset g_3 (by omega) (by omega)
  refine aw_aload_n hX dX0_init_18 rfl ?_
  refine aw_bipush hX (40) dX0_init_19 (by decide) ?_
  refine aw_newarr hX 40 k_arr.1 (by decide) (by decide) (by decide) (by decide) (by decide) dX0_init_21 ?_
  refine AW.gen (fun h_4 g_4 => ?_)
  have e0 := (congrFun g_4 (d)).trans ((hset_ne _ _ (by omega)).trans e0)
  have a_1 := (congrFun g_4 (d + 1)).trans ((hset_ne _ _ (by omega)).trans a_1)
  have sm := sm.eqset g_4 (by omega) (by omega)
  have a_2 := (congrFun g_4 (d + 2)).trans (hset_eq _ _ _)
  refine pf_X0_19 hX hnm dX0_init_23 (by assumption) (Nat.le_of_ble_eq_true rfl) ?_
  dsimp only [List.set_cons_zero, List.set_cons_succ]
  refine AW.gen (fun h_5 g_5 => ?_)
  have e0 := (congrFun g_5 (d)).trans (hset_eq _ _ _)
  have a_1 := (congrFun g_5 (d + 1)).trans ((hset_ne _ _ (by omega)).trans a_1)
  have a_2 := (congrFun g_5 (d + 2)).trans ((hset_ne _ _ (by omega)).trans a_2)
  have sm := sm.eqset g_5 (by omega) (by omega)
  refine aw_aload_n hX dX0_init_26 rfl ?_
  refine aw_bipush hX (40) dX0_init_27 (by decide) ?_
  refine aw_newarr hX 40 k_arr.1 (by decide) (by decide) (by decide) (by decide) (by decide) dX0_init_29 ?_
  refine AW.gen (fun h_6 g_6 => ?_)
  have e0 := (congrFun g_6 (d)).trans ((hset_ne _ _ (by omega)).trans e0)
  have a_1 := (congrFun g_6 (d + 1)).trans ((hset_ne _ _ (by omega)).trans a_1)
  have a_2 := (congrFun g_6 (d + 2)).trans ((hset_ne _ _ (by omega)).trans a_2)
  have sm := sm.eqset g_6 (by omega) (by omega)
  have a_3 := (congrFun g_6 (d + 3)).trans (hset_eq _ _ _)
  refine pf_X0_22 hX hnm dX0_init_31 (by assumption) (Nat.le_of_ble_eq_true rfl) ?_
  dsimp only [List.set_cons_zero, List.set_cons_succ]
  refine AW.gen (fun h_7 g_7 => ?_)
  have e0 := (congrFun g_7 (d)).trans (hset_eq _ _ _)
  have a_1 := (congrFun g_7 (d + 1)).trans ((hset_ne _ _ (by omega)).trans a_1)
  have a_2 := (congrFun g_7 (d + 2)).trans ((hset_ne _ _ (by omega)).trans a_2)
  have a_3 := (congrFun g_7 (d + 3)).trans ((hset_ne _ _ (by omega)).trans a_3)
  have sm := sm.eqset g_7 (by omega) (by omega)
  refine aw_aload_n hX dX0_init_34 rfl ?_
  refine aw_bipush hX (40) dX0_init_35 (by decide) ?_
  refine aw_newarr hX 40 k_arr.1 (by decide) (by decide) (by decide) (by decide) (by decide) dX0_init_37 ?_
  refine AW.gen (fun h_8 g_8 => ?_)
  have e0 := (congrFun g_8 (d)).trans ((hset_ne _ _ (by omega)).trans e0)
  have a_1 := (congrFun g_8 (d + 1)).trans ((hset_ne _ _ (by omega)).trans a_1)
  have a_2 := (congrFun g_8 (d + 2)).trans ((hset_ne _ _ (by omega)).trans a_2)
  have a_3 := (congrFun g_8 (d + 3)).trans ((hset_ne _ _ (by omega)).trans a_3)
  have sm := sm.eqset g_8 (by omega) (by omega)
  have a_4 := (congrFun g_8 (d + 4)).trans (hset_eq _ _ _)
  refine pf_X0_25 hX hnm dX0_init_39 (by assumption) (Nat.le_of_ble_eq_true rfl) ?_
  dsimp only [List.set_cons_zero, List.set_cons_succ]
  refine AW.gen (fun h_9 g_9 => ?_)
  have e0 := (congrFun g_9 (d)).trans (hset_eq _ _ _)
  have a_1 := (congrFun g_9 (d + 1)).trans ((hset_ne _ _ (by omega)).trans a_1)
  have a_2 := (congrFun g_9 (d + 2)).trans ((hset_ne _ _ (by omega)).trans a_2)
  have a_3 := (congrFun g_9 (d + 3)).trans ((hset_ne _ _ (by omega)).trans a_3)
  have a_4 := (congrFun g_9 (d + 4)).trans ((hset_ne _ _ (by omega)).trans a_4)
  have sm := sm.eqset g_9 (by omega) (by omega)
  refine aw_aload_n hX dX0_init_42 rfl ?_
  refine aw_sipush hX (280) dX0_init_43 (by decide) ?_
  refine aw_newarr hX 280 k_arr.1 (by decide) (by decide) (by decide) (by decide) (by decide) dX0_init_46 ?_
  refine AW.gen (fun h_10 g_10 => ?_)
  have e0 := (congrFun g_10 (d)).trans ((hset_ne _ _ (by omega)).trans e0)
  have a_1 := (congrFun g_10 (d + 1)).trans ((hset_ne _ _ (by omega)).trans a_1)
  have a_2 := (congrFun g_10 (d + 2)).trans ((hset_ne _ _ (by omega)).trans a_2)
  have a_3 := (congrFun g_10 (d + 3)).trans ((hset_ne _ _ (by omega)).trans a_3)
  have a_4 := (congrFun g_10 (d + 4)).trans ((hset_ne _ _ (by omega)).trans a_4)
  have sm := sm.eqset g_10 (by omega) (by omega)
  have a_5 := (congrFun g_10 (d + 5)).trans (hset_eq _ _ _)
  refine pf_X0_28 hX hnm dX0_init_48 (by assumption) (Nat.le_of_ble_eq_true rfl) ?_
  dsimp only [List.set_cons_zero, List.set_cons_succ]
  refine AW.gen (fun h_11 g_11 => ?_)
  have e0 := (congrFun g_11 (d)).trans (hset_eq _ _ _)
  have a_1 := (congrFun g_11 (d + 1)).trans ((hset_ne _ _ (by omega)).trans a_1)
  have a_2 := (congrFun g_11 (d + 2)).trans ((hset_ne _ _ (by omega)).trans a_2)
  have a_3 := (congrFun g_11 (d + 3)).trans ((hset_ne _ _ (by omega)).trans a_3)
  have a_4 := (congrFun g_11 (d + 4)).trans ((hset_ne _ _ (by omega)).trans a_4)
  have a_5 := (congrFun g_11 (d + 5)).trans ((hset_ne _ _ (by omega)).trans a_5)
  have sm := sm.eqset g_11 (by omega) (by omega)
  exact aw_vret hX rfl rfl rfl rfl dX0_init_51 (by exact ⟨rfl, ⟨e0, a_1, a_2, a_3, a_4, a_5⟩, sm⟩)
theorem tX1_init (l : Launch) (E : EV) (e0 : h d = some (cO 1 [.null])) : MX1_init l E (d + 1) h [.ref d] (fun r h' => r = none ∧ HFlip h' d ∧ Sm d (d + 2) h h') := by
  refine AM.intro mf_X1_init (by simp [Value.category]) (Nat.le_of_ble_eq_true rfl) (fun X hl hE hnm hX => ?_)
  subst hl
  subst hE
  show AW X _ _ 0 0 0 [some (.ref d)] []
  have sm : Sm d (d + 2) h h := Sm.rf
  refine aw_aload_n hX dX1_init_0 rfl ?_
  refine aw_obj hX RX1 rfl kl_X1_3 m_obj.1 m_obj.2 (by decide) (Nat.le_of_ble_eq_true rfl) dX1_init_1 ?_
  refine aw_aload_n hX dX1_init_4 rfl ?_
  refine aw_bipush hX (40) dX1_init_5 (by decide) ?_
  refine aw_newarr hX 40 k_arr.1 (by decide) (by decide) (by decide) (by decide) (by decide) dX1_init_7 ?_
  refine AW.gen (fun h_1 g_1 => ?_)
  have e0 := (congrFun g_1 (d)).trans ((hset_ne _ _ (by omega)).trans e0)
  have sm := sm.eqset g_1 (by omega) (by omega)
  have a_1 := (congrFun g_1 (d + 1)).trans (hset_eq _ _ _)
  refine pf_X1_9 hX hnm dX1_init_9 (by assumption) (Nat.le_of_ble_eq_true rfl) ?_
  dsimp only [List.set_cons_zero, List.set_cons_succ]
  refine AW.gen (fun h_2 g_2 => ?_)
  have e0 := (congrFun g_2 (d)).trans (hset_eq _ _ _)
  have a_1 := (congrFun g_2 (d + 1)).trans ((hset_ne _ _ (by omega)).trans a_1)
  have sm := sm.eqset g_2 (by omega) (by omega)
  exact aw_vret hX rfl rfl rfl rfl dX1_init_12 (by exact ⟨rfl, ⟨e0, _, a_1⟩, sm⟩)
theorem tX3_init (l : Launch) (E : EV) (e0 : h d = some (cO 3 [.int 0, .int 0, .int 0, .int 0, .null])) : MX3_init l E (d + 1) h [.ref d] (fun r h' => r = none ∧ HM h' d (0, 0, 0, 0, fun _ => 0) ∧ Sm d (d + 2) h h') := by
  refine AM.intro mf_X3_init (by simp [Value.category]) (Nat.le_of_ble_eq_true rfl) (fun X hl hE hnm hX => ?_)
  subst hl
  subst hE
  show AW X _ _ 0 0 0 [some (.ref d)] []
  have sm : Sm d (d + 2) h h := Sm.rf
  refine aw_aload_n hX dX3_init_0 rfl ?_
  refine aw_obj hX RX3 rfl kl_X3_3 m_obj.1 m_obj.2 (by decide) (Nat.le_of_ble_eq_true rfl) dX3_init_1 ?_
  refine aw_aload_n hX dX3_init_4 rfl ?_
  refine aw_iconst hX (0) dX3_init_5 (by decide) ?_
  refine pt_X3_9 hX dX3_init_6 (by assumption) (Nat.le_of_ble_eq_true rfl) ?_
  dsimp only [List.set_cons_zero, List.set_cons_succ]
  refine AW.gen (fun h_1 g_1 => ?_)
  have e0 := (congrFun g_1 (d)).trans (hset_eq _ _ _)
  have sm := sm.eqset g_1 (by omega) (by omega)
  refine aw_aload_n hX dX3_init_9 rfl ?_
  refine aw_iconst hX (0) dX3_init_10 (by decide) ?_
  refine pt_X3_15 hX dX3_init_11 (by assumption) (Nat.le_of_ble_eq_true rfl) ?_
  dsimp only [List.set_cons_zero, List.set_cons_succ]
  refine AW.gen (fun h_2 g_2 => ?_)
  have e0 := (congrFun g_2 (d)).trans (hset_eq _ _ _)
  have sm := sm.eqset g_2 (by omega) (by omega)
  refine aw_aload_n hX dX3_init_14 rfl ?_
  refine aw_iconst hX (0) dX3_init_15 (by decide) ?_
  refine pt_X3_18 hX dX3_init_16 (by assumption) (Nat.le_of_ble_eq_true rfl) ?_
  dsimp only [List.set_cons_zero, List.set_cons_succ]
  refine AW.gen (fun h_3 g_3 => ?_)
  have e0 := (congrFun g_3 (d)).trans (hset_eq _ _ _)
  have sm := sm.eqset g_3 (by omega) (by omega)
  refine aw_aload_n hX dX3_init_19 rfl ?_
  refine aw_iconst hX (0) dX3_init_20 (by decide) ?_
  refine pt_X3_21 hX dX3_init_21 (by assumption) (Nat.le_of_ble_eq_true rfl) ?_
  dsimp only [List.set_cons_zero, List.set_cons_succ]
  refine AW.gen (fun h_4 g_4 => ?_)
  have e0 := (congrFun g_4 (d)).trans (hset_eq _ _ _)
  have sm := sm.eqset g_4 (by omega) (by omega)
  refine aw_aload_n hX dX3_init_24 rfl ?_
  refine aw_bipush hX (20) dX3_init_25 (by decide) ?_
  refine aw_newarr hX 20 k_arr.1 (by decide) (by decide) (by decide) (by decide) (by decide) dX3_init_27 ?_
  refine AW.gen (fun h_5 g_5 => ?_)
  have e0 := (congrFun g_5 (d)).trans ((hset_ne _ _ (by omega)).trans e0)
  have sm := sm.eqset g_5 (by omega) (by omega)
  have a_1 := (congrFun g_5 (d + 1)).trans (hset_eq _ _ _)
  refine pf_X3_24 hX hnm dX3_init_29 (by assumption) (Nat.le_of_ble_eq_true rfl) ?_
  dsimp only [List.set_cons_zero, List.set_cons_succ]
  refine AW.gen (fun h_6 g_6 => ?_)
  have e0 := (congrFun g_6 (d)).trans (hset_eq _ _ _)
  have a_1 := (congrFun g_6 (d + 1)).trans ((hset_ne _ _ (by omega)).trans a_1)
  have sm := sm.eqset g_6 (by omega) (by omega)
  exact aw_vret hX rfl rfl rfl rfl dX3_init_32 (by exact ⟨rfl, ⟨e0, a_1⟩, sm⟩)
theorem tX5_init (l : Launch) (E : EV) (e0 : h d = some (cO 5 [.null, .null])) : MX5_init l E (d + 1) h [.ref d] (fun r h' => r = none ∧ HPaint h' d ∧ Sm d (d + 3) h h') := by
  refine AM.intro mf_X5_init (by simp [Value.category]) (Nat.le_of_ble_eq_true rfl) (fun X hl hE hnm hX => ?_)
  subst hl
  subst hE
  show AW X _ _ 0 0 0 [some (.ref d)] []
  have sm : Sm d (d + 3) h h := Sm.rf
  refine aw_aload_n hX dX5_init_0 rfl ?_
  refine aw_obj hX RX5 rfl kl_X5_3 m_obj.1 m_obj.2 (by decide) (Nat.le_of_ble_eq_true rfl) dX5_init_1 ?_
  refine aw_aload_n hX dX5_init_4 rfl ?_
  refine aw_bipush hX (40) dX5_init_5 (by decide) ?_
  refine aw_newarr hX 40 k_arr.1 (by decide) (by decide) (by decide) (by decide) (by decide) dX5_init_7 ?_
  refine AW.gen (fun h_1 g_1 => ?_)
  have e0 := (congrFun g_1 (d)).trans ((hset_ne _ _ (by omega)).trans e0)
  have sm := sm.eqset g_1 (by omega) (by omega)
  have a_1 := (congrFun g_1 (d + 1)).trans (hset_eq _ _ _)
  refine pf_X5_9 hX hnm dX5_init_9 (by assumption) (Nat.le_of_ble_eq_true rfl) ?_
  dsimp only [List.set_cons_zero, List.set_cons_succ]
  refine AW.gen (fun h_2 g_2 => ?_)
  have e0 := (congrFun g_2 (d)).trans (hset_eq _ _ _)
  have a_1 := (congrFun g_2 (d + 1)).trans ((hset_ne _ _ (by omega)).trans a_1)
  have sm := sm.eqset g_2 (by omega) (by omega)
  refine aw_aload_n hX dX5_init_12 rfl ?_
  refine aw_bipush hX (40) dX5_init_13 (by decide) ?_
  refine aw_newarr hX 40 k_arr.1 (by decide) (by decide) (by decide) (by decide) (by decide) dX5_init_15 ?_
  refine AW.gen (fun h_3 g_3 => ?_)
  have e0 := (congrFun g_3 (d)).trans ((hset_ne _ _ (by omega)).trans e0)
  have a_1 := (congrFun g_3 (d + 1)).trans ((hset_ne _ _ (by omega)).trans a_1)
  have sm := sm.eqset g_3 (by omega) (by omega)
  have a_2 := (congrFun g_3 (d + 2)).trans (hset_eq _ _ _)
  refine pf_X5_15 hX hnm dX5_init_17 (by assumption) (Nat.le_of_ble_eq_true rfl) ?_
  dsimp only [List.set_cons_zero, List.set_cons_succ]
  refine AW.gen (fun h_4 g_4 => ?_)
  have e0 := (congrFun g_4 (d)).trans (hset_eq _ _ _)
  have a_1 := (congrFun g_4 (d + 1)).trans ((hset_ne _ _ (by omega)).trans a_1)
  have a_2 := (congrFun g_4 (d + 2)).trans ((hset_ne _ _ (by omega)).trans a_2)
  have sm := sm.eqset g_4 (by omega) (by omega)
  exact aw_vret hX rfl rfl rfl rfl dX5_init_20 (by exact ⟨rfl, ⟨e0, ⟨_, a_1⟩, _, a_2⟩, sm⟩)
theorem tX7_init (l : Launch) (E : EV) (e0 : h d = some (cO 7 [.null, .null, .null, .null, .int 0])) : MX7_init l E (d + 1) h [.ref d] (fun r h' => r = none ∧ HS h' d (fun _ => 0, fun _ => 0, fun _ => 0, fun _ => 0, 0) ∧ Sm d (d + 5) h h') := by
  refine AM.intro mf_X7_init (by simp [Value.category]) (Nat.le_of_ble_eq_true rfl) (fun X hl hE hnm hX => ?_)
  subst hl
  subst hE
  show AW X _ _ 0 0 0 [some (.ref d)] []
  have sm : Sm d (d + 5) h h := Sm.rf
  refine aw_aload_n hX dX7_init_0 rfl ?_
  refine aw_obj hX RX7 rfl kl_X7_3 m_obj.1 m_obj.2 (by decide) (Nat.le_of_ble_eq_true rfl) dX7_init_1 ?_
  refine aw_aload_n hX dX7_init_4 rfl ?_
  refine aw_sipush hX (130) dX7_init_5 (by decide) ?_
  refine aw_newarr hX 130 k_arr.1 (by decide) (by decide) (by decide) (by decide) (by decide) dX7_init_8 ?_
  refine AW.gen (fun h_1 g_1 => ?_)
  have e0 := (congrFun g_1 (d)).trans ((hset_ne _ _ (by omega)).trans e0)
  have sm := sm.eqset g_1 (by omega) (by omega)
  have a_1 := (congrFun g_1 (d + 1)).trans (hset_eq _ _ _)
  refine pf_X7_9 hX hnm dX7_init_10 (by assumption) (Nat.le_of_ble_eq_true rfl) ?_
  dsimp only [List.set_cons_zero, List.set_cons_succ]
  refine AW.gen (fun h_2 g_2 => ?_)
  have e0 := (congrFun g_2 (d)).trans (hset_eq _ _ _)
  have a_1 := (congrFun g_2 (d + 1)).trans ((hset_ne _ _ (by omega)).trans a_1)
  have sm := sm.eqset g_2 (by omega) (by omega)
  refine aw_aload_n hX dX7_init_13 rfl ?_
  refine aw_bipush hX (26) dX7_init_14 (by decide) ?_
  refine aw_newarr hX 26 k_arr.1 (by decide) (by decide) (by decide) (by decide) (by decide) dX7_init_16 ?_
  refine AW.gen (fun h_3 g_3 => ?_)
  have e0 := (congrFun g_3 (d)).trans ((hset_ne _ _ (by omega)).trans e0)
  have a_1 := (congrFun g_3 (d + 1)).trans ((hset_ne _ _ (by omega)).trans a_1)
  have sm := sm.eqset g_3 (by omega) (by omega)
  have a_2 := (congrFun g_3 (d + 2)).trans (hset_eq _ _ _)
  refine pf_X7_15 hX hnm dX7_init_18 (by assumption) (Nat.le_of_ble_eq_true rfl) ?_
  dsimp only [List.set_cons_zero, List.set_cons_succ]
  refine AW.gen (fun h_4 g_4 => ?_)
  have e0 := (congrFun g_4 (d)).trans (hset_eq _ _ _)
  have a_1 := (congrFun g_4 (d + 1)).trans ((hset_ne _ _ (by omega)).trans a_1)
  have a_2 := (congrFun g_4 (d + 2)).trans ((hset_ne _ _ (by omega)).trans a_2)
  have sm := sm.eqset g_4 (by omega) (by omega)
  refine aw_aload_n hX dX7_init_21 rfl ?_
  refine aw_bipush hX (96) dX7_init_22 (by decide) ?_
  refine aw_newarr hX 96 k_arr.1 (by decide) (by decide) (by decide) (by decide) (by decide) dX7_init_24 ?_
  refine AW.gen (fun h_5 g_5 => ?_)
  have e0 := (congrFun g_5 (d)).trans ((hset_ne _ _ (by omega)).trans e0)
  have a_1 := (congrFun g_5 (d + 1)).trans ((hset_ne _ _ (by omega)).trans a_1)
  have a_2 := (congrFun g_5 (d + 2)).trans ((hset_ne _ _ (by omega)).trans a_2)
  have sm := sm.eqset g_5 (by omega) (by omega)
  have a_3 := (congrFun g_5 (d + 3)).trans (hset_eq _ _ _)
  refine pf_X7_18 hX hnm dX7_init_26 (by assumption) (Nat.le_of_ble_eq_true rfl) ?_
  dsimp only [List.set_cons_zero, List.set_cons_succ]
  refine AW.gen (fun h_6 g_6 => ?_)
  have e0 := (congrFun g_6 (d)).trans (hset_eq _ _ _)
  have a_1 := (congrFun g_6 (d + 1)).trans ((hset_ne _ _ (by omega)).trans a_1)
  have a_2 := (congrFun g_6 (d + 2)).trans ((hset_ne _ _ (by omega)).trans a_2)
  have a_3 := (congrFun g_6 (d + 3)).trans ((hset_ne _ _ (by omega)).trans a_3)
  have sm := sm.eqset g_6 (by omega) (by omega)
  refine aw_aload_n hX dX7_init_29 rfl ?_
  refine aw_bipush hX (8) dX7_init_30 (by decide) ?_
  refine aw_newarr hX 8 k_arr.1 (by decide) (by decide) (by decide) (by decide) (by decide) dX7_init_32 ?_
  refine AW.gen (fun h_7 g_7 => ?_)
  have e0 := (congrFun g_7 (d)).trans ((hset_ne _ _ (by omega)).trans e0)
  have a_1 := (congrFun g_7 (d + 1)).trans ((hset_ne _ _ (by omega)).trans a_1)
  have a_2 := (congrFun g_7 (d + 2)).trans ((hset_ne _ _ (by omega)).trans a_2)
  have a_3 := (congrFun g_7 (d + 3)).trans ((hset_ne _ _ (by omega)).trans a_3)
  have sm := sm.eqset g_7 (by omega) (by omega)
  have a_4 := (congrFun g_7 (d + 4)).trans (hset_eq _ _ _)
  refine pf_X7_21 hX hnm dX7_init_34 (by assumption) (Nat.le_of_ble_eq_true rfl) ?_
  dsimp only [List.set_cons_zero, List.set_cons_succ]
  refine AW.gen (fun h_8 g_8 => ?_)
  have e0 := (congrFun g_8 (d)).trans (hset_eq _ _ _)
  have a_1 := (congrFun g_8 (d + 1)).trans ((hset_ne _ _ (by omega)).trans a_1)
  have a_2 := (congrFun g_8 (d + 2)).trans ((hset_ne _ _ (by omega)).trans a_2)
  have a_3 := (congrFun g_8 (d + 3)).trans ((hset_ne _ _ (by omega)).trans a_3)
  have a_4 := (congrFun g_8 (d + 4)).trans ((hset_ne _ _ (by omega)).trans a_4)
  have sm := sm.eqset g_8 (by omega) (by omega)
  refine aw_aload_n hX dX7_init_37 rfl ?_
  refine aw_iconst hX (0) dX7_init_38 (by decide) ?_
  refine pt_X7_24 hX dX7_init_39 (by assumption) (Nat.le_of_ble_eq_true rfl) ?_
  dsimp only [List.set_cons_zero, List.set_cons_succ]
  refine AW.gen (fun h_9 g_9 => ?_)
  have e0 := (congrFun g_9 (d)).trans (hset_eq _ _ _)
  have a_1 := (congrFun g_9 (d + 1)).trans ((hset_ne _ _ (by omega)).trans a_1)
  have a_2 := (congrFun g_9 (d + 2)).trans ((hset_ne _ _ (by omega)).trans a_2)
  have a_3 := (congrFun g_9 (d + 3)).trans ((hset_ne _ _ (by omega)).trans a_3)
  have a_4 := (congrFun g_9 (d + 4)).trans ((hset_ne _ _ (by omega)).trans a_4)
  have sm := sm.eqset g_9 (by omega) (by omega)
  exact aw_vret hX rfl rfl rfl rfl dX7_init_42 (by exact ⟨rfl, ⟨e0, a_1, a_2, a_3, a_4⟩, sm⟩)
theorem tX4_init (l : Launch) (E : EV) (e0 : h d = some (cO 4 [.null, .null, .null, .null, .int 0])) : MX4_init l E (d + 1) h [.ref d] (fun r h' => r = none ∧ HOrd h' d (fun _ => 0, fun _ _ => 0, fun _ _ => 0, fun _ _ => 0, 0) ∧ Sm d (d + 49) h h') := by
  refine AM.intro mf_X4_init (by simp [Value.category]) (Nat.le_of_ble_eq_true rfl) (fun X hl hE hnm hX => ?_)
  subst hl
  subst hE
  show AW X _ _ 0 0 0 [some (.ref d)] []
  have sm : Sm d (d + 49) h h := Sm.rf
  refine aw_aload_n hX dX4_init_0 rfl ?_
  refine aw_obj hX RX4 rfl kl_X4_3 m_obj.1 m_obj.2 (by decide) (Nat.le_of_ble_eq_true rfl) dX4_init_1 ?_
  refine aw_aload_n hX dX4_init_4 rfl ?_
  refine aw_bipush hX (6) dX4_init_5 (by decide) ?_
  refine aw_newarr hX 6 k_arr.1 (by decide) (by decide) (by decide) (by decide) (by decide) dX4_init_7 ?_
  refine AW.gen (fun h_1 g_1 => ?_)
  have e0 := (congrFun g_1 (d)).trans ((hset_ne _ _ (by omega)).trans e0)
  have sm := sm.eqset g_1 (by omega) (by omega)
  have a_1 := (congrFun g_1 (d + 1)).trans (hset_eq _ _ _)
  refine pf_X4_11 hX hnm dX4_init_9 (by assumption) (Nat.le_of_ble_eq_true rfl) ?_
  dsimp only [List.set_cons_zero, List.set_cons_succ]
  refine AW.gen (fun h_2 g_2 => ?_)
  have e0 := (congrFun g_2 (d)).trans (hset_eq _ _ _)
  have a_1 := (congrFun g_2 (d + 1)).trans ((hset_ne _ _ (by omega)).trans a_1)
  have sm := sm.eqset g_2 (by omega) (by omega)
  refine aw_aload_n hX dX4_init_12 rfl ?_
  refine aw_bipush hX (6) dX4_init_13 (by decide) ?_
  refine aw_bipush hX (40) dX4_init_15 (by decide) ?_
  refine aw_mna hX RX4 rfl 6 40 kc_X4_15 k_arr.2.1 k_arr.1 (by decide) (by decide) (by decide) (by decide) (by decide) (by decide) (by decide) (by decide) dX4_init_17 ?_
  refine AW.gen (fun h_3 g_3 => ?_)
  have e0 := (congrFun g_3 (d)).trans ((hmna_lo (by omega)).trans e0)
  have a_1 := (congrFun g_3 (d + 1)).trans ((hmna_lo (by omega)).trans a_1)
  have sm := sm.eqmna g_3 (by omega) (by omega)
  have m_3 := (congrFun g_3 (d + 2)).trans (hmna_o _ _ _ _)
  have m_3_0 := (congrFun g_3 (d + 3)).trans (hmna_i (N := 6) 0 (by decide))
  have m_3_1 := (congrFun g_3 (d + 4)).trans (hmna_i (N := 6) 1 (by decide))
  have m_3_2 := (congrFun g_3 (d + 5)).trans (hmna_i (N := 6) 2 (by decide))
  have m_3_3 := (congrFun g_3 (d + 6)).trans (hmna_i (N := 6) 3 (by decide))
  have m_3_4 := (congrFun g_3 (d + 7)).trans (hmna_i (N := 6) 4 (by decide))
  have m_3_5 := (congrFun g_3 (d + 8)).trans (hmna_i (N := 6) 5 (by decide))
  refine pf_X4_17 hX hnm dX4_init_21 (by assumption) (Nat.le_of_ble_eq_true rfl) ?_
  dsimp only [List.set_cons_zero, List.set_cons_succ]
  refine AW.gen (fun h_4 g_4 => ?_)
  have e0 := (congrFun g_4 (d)).trans (hset_eq _ _ _)
  have a_1 := (congrFun g_4 (d + 1)).trans ((hset_ne _ _ (by omega)).trans a_1)
  have m_3 := (congrFun g_4 (d + 2)).trans ((hset_ne _ _ (by omega)).trans m_3)
  have m_3_0 := (congrFun g_4 (d + 3)).trans ((hset_ne _ _ (by omega)).trans m_3_0)
  have m_3_1 := (congrFun g_4 (d + 4)).trans ((hset_ne _ _ (by omega)).trans m_3_1)
  have m_3_2 := (congrFun g_4 (d + 5)).trans ((hset_ne _ _ (by omega)).trans m_3_2)
  have m_3_3 := (congrFun g_4 (d + 6)).trans ((hset_ne _ _ (by omega)).trans m_3_3)
  have m_3_4 := (congrFun g_4 (d + 7)).trans ((hset_ne _ _ (by omega)).trans m_3_4)
  have m_3_5 := (congrFun g_4 (d + 8)).trans ((hset_ne _ _ (by omega)).trans m_3_5)
  have sm := sm.eqset g_4 (by omega) (by omega)
  refine aw_aload_n hX dX4_init_24 rfl ?_
  refine aw_bipush hX (6) dX4_init_25 (by decide) ?_
  refine aw_bipush hX (6) dX4_init_27 (by decide) ?_
  refine aw_mna hX RX4 rfl 6 6 kc_X4_15 k_arr.2.1 k_arr.1 (by decide) (by decide) (by decide) (by decide) (by decide) (by decide) (by decide) (by decide) dX4_init_29 ?_
  refine AW.gen (fun h_5 g_5 => ?_)
  have e0 := (congrFun g_5 (d)).trans ((hmna_lo (by omega)).trans e0)
  have a_1 := (congrFun g_5 (d + 1)).trans ((hmna_lo (by omega)).trans a_1)
  have m_3 := (congrFun g_5 (d + 2)).trans ((hmna_lo (by omega)).trans m_3)
  have m_3_0 := (congrFun g_5 (d + 3)).trans ((hmna_lo (by omega)).trans m_3_0)
  have m_3_1 := (congrFun g_5 (d + 4)).trans ((hmna_lo (by omega)).trans m_3_1)
  have m_3_2 := (congrFun g_5 (d + 5)).trans ((hmna_lo (by omega)).trans m_3_2)
  have m_3_3 := (congrFun g_5 (d + 6)).trans ((hmna_lo (by omega)).trans m_3_3)
  have m_3_4 := (congrFun g_5 (d + 7)).trans ((hmna_lo (by omega)).trans m_3_4)
  have m_3_5 := (congrFun g_5 (d + 8)).trans ((hmna_lo (by omega)).trans m_3_5)
  have sm := sm.eqmna g_5 (by omega) (by omega)
  have m_5 := (congrFun g_5 (d + 9)).trans (hmna_o _ _ _ _)
  have m_5_0 := (congrFun g_5 (d + 10)).trans (hmna_i (N := 6) 0 (by decide))
  have m_5_1 := (congrFun g_5 (d + 11)).trans (hmna_i (N := 6) 1 (by decide))
  have m_5_2 := (congrFun g_5 (d + 12)).trans (hmna_i (N := 6) 2 (by decide))
  have m_5_3 := (congrFun g_5 (d + 13)).trans (hmna_i (N := 6) 3 (by decide))
  have m_5_4 := (congrFun g_5 (d + 14)).trans (hmna_i (N := 6) 4 (by decide))
  have m_5_5 := (congrFun g_5 (d + 15)).trans (hmna_i (N := 6) 5 (by decide))
  refine pf_X4_20 hX hnm dX4_init_33 (by assumption) (Nat.le_of_ble_eq_true rfl) ?_
  dsimp only [List.set_cons_zero, List.set_cons_succ]
  refine AW.gen (fun h_6 g_6 => ?_)
  have e0 := (congrFun g_6 (d)).trans (hset_eq _ _ _)
  have a_1 := (congrFun g_6 (d + 1)).trans ((hset_ne _ _ (by omega)).trans a_1)
  have m_3 := (congrFun g_6 (d + 2)).trans ((hset_ne _ _ (by omega)).trans m_3)
  have m_3_0 := (congrFun g_6 (d + 3)).trans ((hset_ne _ _ (by omega)).trans m_3_0)
  have m_3_1 := (congrFun g_6 (d + 4)).trans ((hset_ne _ _ (by omega)).trans m_3_1)
  have m_3_2 := (congrFun g_6 (d + 5)).trans ((hset_ne _ _ (by omega)).trans m_3_2)
  have m_3_3 := (congrFun g_6 (d + 6)).trans ((hset_ne _ _ (by omega)).trans m_3_3)
  have m_3_4 := (congrFun g_6 (d + 7)).trans ((hset_ne _ _ (by omega)).trans m_3_4)
  have m_3_5 := (congrFun g_6 (d + 8)).trans ((hset_ne _ _ (by omega)).trans m_3_5)
  have m_5 := (congrFun g_6 (d + 9)).trans ((hset_ne _ _ (by omega)).trans m_5)
  have m_5_0 := (congrFun g_6 (d + 10)).trans ((hset_ne _ _ (by omega)).trans m_5_0)
  have m_5_1 := (congrFun g_6 (d + 11)).trans ((hset_ne _ _ (by omega)).trans m_5_1)
  have m_5_2 := (congrFun g_6 (d + 12)).trans ((hset_ne _ _ (by omega)).trans m_5_2)
  have m_5_3 := (congrFun g_6 (d + 13)).trans ((hset_ne _ _ (by omega)).trans m_5_3)
  have m_5_4 := (congrFun g_6 (d + 14)).trans ((hset_ne _ _ (by omega)).trans m_5_4)
  have m_5_5 := (congrFun g_6 (d + 15)).trans ((hset_ne _ _ (by omega)).trans m_5_5)
  have sm := sm.eqset g_6 (by omega) (by omega)
  refine aw_aload_n hX dX4_init_36 rfl ?_
  refine aw_bipush hX (32) dX4_init_37 (by decide) ?_
  refine aw_bipush hX (6) dX4_init_39 (by decide) ?_
  refine aw_mna hX RX4 rfl 32 6 kc_X4_15 k_arr.2.1 k_arr.1 (by decide) (by decide) (by decide) (by decide) (by decide) (by decide) (by decide) (by decide) dX4_init_41 ?_
  refine AW.gen (fun h_7 g_7 => ?_)
  have e0 := (congrFun g_7 (d)).trans ((hmna_lo (by omega)).trans e0)
  have a_1 := (congrFun g_7 (d + 1)).trans ((hmna_lo (by omega)).trans a_1)
  have m_3 := (congrFun g_7 (d + 2)).trans ((hmna_lo (by omega)).trans m_3)
  have m_3_0 := (congrFun g_7 (d + 3)).trans ((hmna_lo (by omega)).trans m_3_0)
  have m_3_1 := (congrFun g_7 (d + 4)).trans ((hmna_lo (by omega)).trans m_3_1)
  have m_3_2 := (congrFun g_7 (d + 5)).trans ((hmna_lo (by omega)).trans m_3_2)
  have m_3_3 := (congrFun g_7 (d + 6)).trans ((hmna_lo (by omega)).trans m_3_3)
  have m_3_4 := (congrFun g_7 (d + 7)).trans ((hmna_lo (by omega)).trans m_3_4)
  have m_3_5 := (congrFun g_7 (d + 8)).trans ((hmna_lo (by omega)).trans m_3_5)
  have m_5 := (congrFun g_7 (d + 9)).trans ((hmna_lo (by omega)).trans m_5)
  have m_5_0 := (congrFun g_7 (d + 10)).trans ((hmna_lo (by omega)).trans m_5_0)
  have m_5_1 := (congrFun g_7 (d + 11)).trans ((hmna_lo (by omega)).trans m_5_1)
  have m_5_2 := (congrFun g_7 (d + 12)).trans ((hmna_lo (by omega)).trans m_5_2)
  have m_5_3 := (congrFun g_7 (d + 13)).trans ((hmna_lo (by omega)).trans m_5_3)
  have m_5_4 := (congrFun g_7 (d + 14)).trans ((hmna_lo (by omega)).trans m_5_4)
  have m_5_5 := (congrFun g_7 (d + 15)).trans ((hmna_lo (by omega)).trans m_5_5)
  have sm := sm.eqmna g_7 (by omega) (by omega)
  have m_7 := (congrFun g_7 (d + 16)).trans (hmna_o _ _ _ _)
  have m_7_0 := (congrFun g_7 (d + 17)).trans (hmna_i (N := 32) 0 (by decide))
  have m_7_1 := (congrFun g_7 (d + 18)).trans (hmna_i (N := 32) 1 (by decide))
  have m_7_2 := (congrFun g_7 (d + 19)).trans (hmna_i (N := 32) 2 (by decide))
  have m_7_3 := (congrFun g_7 (d + 20)).trans (hmna_i (N := 32) 3 (by decide))
  have m_7_4 := (congrFun g_7 (d + 21)).trans (hmna_i (N := 32) 4 (by decide))
  have m_7_5 := (congrFun g_7 (d + 22)).trans (hmna_i (N := 32) 5 (by decide))
  have m_7_6 := (congrFun g_7 (d + 23)).trans (hmna_i (N := 32) 6 (by decide))
  have m_7_7 := (congrFun g_7 (d + 24)).trans (hmna_i (N := 32) 7 (by decide))
  have m_7_8 := (congrFun g_7 (d + 25)).trans (hmna_i (N := 32) 8 (by decide))
  have m_7_9 := (congrFun g_7 (d + 26)).trans (hmna_i (N := 32) 9 (by decide))
  have m_7_10 := (congrFun g_7 (d + 27)).trans (hmna_i (N := 32) 10 (by decide))
  have m_7_11 := (congrFun g_7 (d + 28)).trans (hmna_i (N := 32) 11 (by decide))
  have m_7_12 := (congrFun g_7 (d + 29)).trans (hmna_i (N := 32) 12 (by decide))
  have m_7_13 := (congrFun g_7 (d + 30)).trans (hmna_i (N := 32) 13 (by decide))
  have m_7_14 := (congrFun g_7 (d + 31)).trans (hmna_i (N := 32) 14 (by decide))
  have m_7_15 := (congrFun g_7 (d + 32)).trans (hmna_i (N := 32) 15 (by decide))
  have m_7_16 := (congrFun g_7 (d + 33)).trans (hmna_i (N := 32) 16 (by decide))
  have m_7_17 := (congrFun g_7 (d + 34)).trans (hmna_i (N := 32) 17 (by decide))
  have m_7_18 := (congrFun g_7 (d + 35)).trans (hmna_i (N := 32) 18 (by decide))
  have m_7_19 := (congrFun g_7 (d + 36)).trans (hmna_i (N := 32) 19 (by decide))
  have m_7_20 := (congrFun g_7 (d + 37)).trans (hmna_i (N := 32) 20 (by decide))
  have m_7_21 := (congrFun g_7 (d + 38)).trans (hmna_i (N := 32) 21 (by decide))
  have m_7_22 := (congrFun g_7 (d + 39)).trans (hmna_i (N := 32) 22 (by decide))
  have m_7_23 := (congrFun g_7 (d + 40)).trans (hmna_i (N := 32) 23 (by decide))
  have m_7_24 := (congrFun g_7 (d + 41)).trans (hmna_i (N := 32) 24 (by decide))
  have m_7_25 := (congrFun g_7 (d + 42)).trans (hmna_i (N := 32) 25 (by decide))
  have m_7_26 := (congrFun g_7 (d + 43)).trans (hmna_i (N := 32) 26 (by decide))
  have m_7_27 := (congrFun g_7 (d + 44)).trans (hmna_i (N := 32) 27 (by decide))
  have m_7_28 := (congrFun g_7 (d + 45)).trans (hmna_i (N := 32) 28 (by decide))
  have m_7_29 := (congrFun g_7 (d + 46)).trans (hmna_i (N := 32) 29 (by decide))
  have m_7_30 := (congrFun g_7 (d + 47)).trans (hmna_i (N := 32) 30 (by decide))
  have m_7_31 := (congrFun g_7 (d + 48)).trans (hmna_i (N := 32) 31 (by decide))
  refine pf_X4_23 hX hnm dX4_init_45 (by assumption) (Nat.le_of_ble_eq_true rfl) ?_
  dsimp only [List.set_cons_zero, List.set_cons_succ]
  refine AW.gen (fun h_8 g_8 => ?_)
  have e0 := (congrFun g_8 (d)).trans (hset_eq _ _ _)
  have a_1 := (congrFun g_8 (d + 1)).trans ((hset_ne _ _ (by omega)).trans a_1)
  have m_3 := (congrFun g_8 (d + 2)).trans ((hset_ne _ _ (by omega)).trans m_3)
  have m_3_0 := (congrFun g_8 (d + 3)).trans ((hset_ne _ _ (by omega)).trans m_3_0)
  have m_3_1 := (congrFun g_8 (d + 4)).trans ((hset_ne _ _ (by omega)).trans m_3_1)
  have m_3_2 := (congrFun g_8 (d + 5)).trans ((hset_ne _ _ (by omega)).trans m_3_2)
  have m_3_3 := (congrFun g_8 (d + 6)).trans ((hset_ne _ _ (by omega)).trans m_3_3)
  have m_3_4 := (congrFun g_8 (d + 7)).trans ((hset_ne _ _ (by omega)).trans m_3_4)
  have m_3_5 := (congrFun g_8 (d + 8)).trans ((hset_ne _ _ (by omega)).trans m_3_5)
  have m_5 := (congrFun g_8 (d + 9)).trans ((hset_ne _ _ (by omega)).trans m_5)
  have m_5_0 := (congrFun g_8 (d + 10)).trans ((hset_ne _ _ (by omega)).trans m_5_0)
  have m_5_1 := (congrFun g_8 (d + 11)).trans ((hset_ne _ _ (by omega)).trans m_5_1)
  have m_5_2 := (congrFun g_8 (d + 12)).trans ((hset_ne _ _ (by omega)).trans m_5_2)
  have m_5_3 := (congrFun g_8 (d + 13)).trans ((hset_ne _ _ (by omega)).trans m_5_3)
  have m_5_4 := (congrFun g_8 (d + 14)).trans ((hset_ne _ _ (by omega)).trans m_5_4)
  have m_5_5 := (congrFun g_8 (d + 15)).trans ((hset_ne _ _ (by omega)).trans m_5_5)
  have m_7 := (congrFun g_8 (d + 16)).trans ((hset_ne _ _ (by omega)).trans m_7)
  have m_7_0 := (congrFun g_8 (d + 17)).trans ((hset_ne _ _ (by omega)).trans m_7_0)
  have m_7_1 := (congrFun g_8 (d + 18)).trans ((hset_ne _ _ (by omega)).trans m_7_1)
  have m_7_2 := (congrFun g_8 (d + 19)).trans ((hset_ne _ _ (by omega)).trans m_7_2)
  have m_7_3 := (congrFun g_8 (d + 20)).trans ((hset_ne _ _ (by omega)).trans m_7_3)
  have m_7_4 := (congrFun g_8 (d + 21)).trans ((hset_ne _ _ (by omega)).trans m_7_4)
  have m_7_5 := (congrFun g_8 (d + 22)).trans ((hset_ne _ _ (by omega)).trans m_7_5)
  have m_7_6 := (congrFun g_8 (d + 23)).trans ((hset_ne _ _ (by omega)).trans m_7_6)
  have m_7_7 := (congrFun g_8 (d + 24)).trans ((hset_ne _ _ (by omega)).trans m_7_7)
  have m_7_8 := (congrFun g_8 (d + 25)).trans ((hset_ne _ _ (by omega)).trans m_7_8)
  have m_7_9 := (congrFun g_8 (d + 26)).trans ((hset_ne _ _ (by omega)).trans m_7_9)
  have m_7_10 := (congrFun g_8 (d + 27)).trans ((hset_ne _ _ (by omega)).trans m_7_10)
  have m_7_11 := (congrFun g_8 (d + 28)).trans ((hset_ne _ _ (by omega)).trans m_7_11)
  have m_7_12 := (congrFun g_8 (d + 29)).trans ((hset_ne _ _ (by omega)).trans m_7_12)
  have m_7_13 := (congrFun g_8 (d + 30)).trans ((hset_ne _ _ (by omega)).trans m_7_13)
  have m_7_14 := (congrFun g_8 (d + 31)).trans ((hset_ne _ _ (by omega)).trans m_7_14)
  have m_7_15 := (congrFun g_8 (d + 32)).trans ((hset_ne _ _ (by omega)).trans m_7_15)
  have m_7_16 := (congrFun g_8 (d + 33)).trans ((hset_ne _ _ (by omega)).trans m_7_16)
  have m_7_17 := (congrFun g_8 (d + 34)).trans ((hset_ne _ _ (by omega)).trans m_7_17)
  have m_7_18 := (congrFun g_8 (d + 35)).trans ((hset_ne _ _ (by omega)).trans m_7_18)
  have m_7_19 := (congrFun g_8 (d + 36)).trans ((hset_ne _ _ (by omega)).trans m_7_19)
  have m_7_20 := (congrFun g_8 (d + 37)).trans ((hset_ne _ _ (by omega)).trans m_7_20)
  have m_7_21 := (congrFun g_8 (d + 38)).trans ((hset_ne _ _ (by omega)).trans m_7_21)
  have m_7_22 := (congrFun g_8 (d + 39)).trans ((hset_ne _ _ (by omega)).trans m_7_22)
  have m_7_23 := (congrFun g_8 (d + 40)).trans ((hset_ne _ _ (by omega)).trans m_7_23)
  have m_7_24 := (congrFun g_8 (d + 41)).trans ((hset_ne _ _ (by omega)).trans m_7_24)
  have m_7_25 := (congrFun g_8 (d + 42)).trans ((hset_ne _ _ (by omega)).trans m_7_25)
  have m_7_26 := (congrFun g_8 (d + 43)).trans ((hset_ne _ _ (by omega)).trans m_7_26)
  have m_7_27 := (congrFun g_8 (d + 44)).trans ((hset_ne _ _ (by omega)).trans m_7_27)
  have m_7_28 := (congrFun g_8 (d + 45)).trans ((hset_ne _ _ (by omega)).trans m_7_28)
  have m_7_29 := (congrFun g_8 (d + 46)).trans ((hset_ne _ _ (by omega)).trans m_7_29)
  have m_7_30 := (congrFun g_8 (d + 47)).trans ((hset_ne _ _ (by omega)).trans m_7_30)
  have m_7_31 := (congrFun g_8 (d + 48)).trans ((hset_ne _ _ (by omega)).trans m_7_31)
  have sm := sm.eqset g_8 (by omega) (by omega)
  refine aw_aload_n hX dX4_init_48 rfl ?_
  refine aw_iconst hX (0) dX4_init_49 (by decide) ?_
  refine pt_X4_26 hX dX4_init_50 (by assumption) (Nat.le_of_ble_eq_true rfl) ?_
  dsimp only [List.set_cons_zero, List.set_cons_succ]
  refine AW.gen (fun h_9 g_9 => ?_)
  have e0 := (congrFun g_9 (d)).trans (hset_eq _ _ _)
  have a_1 := (congrFun g_9 (d + 1)).trans ((hset_ne _ _ (by omega)).trans a_1)
  have m_3 := (congrFun g_9 (d + 2)).trans ((hset_ne _ _ (by omega)).trans m_3)
  have m_3_0 := (congrFun g_9 (d + 3)).trans ((hset_ne _ _ (by omega)).trans m_3_0)
  have m_3_1 := (congrFun g_9 (d + 4)).trans ((hset_ne _ _ (by omega)).trans m_3_1)
  have m_3_2 := (congrFun g_9 (d + 5)).trans ((hset_ne _ _ (by omega)).trans m_3_2)
  have m_3_3 := (congrFun g_9 (d + 6)).trans ((hset_ne _ _ (by omega)).trans m_3_3)
  have m_3_4 := (congrFun g_9 (d + 7)).trans ((hset_ne _ _ (by omega)).trans m_3_4)
  have m_3_5 := (congrFun g_9 (d + 8)).trans ((hset_ne _ _ (by omega)).trans m_3_5)
  have m_5 := (congrFun g_9 (d + 9)).trans ((hset_ne _ _ (by omega)).trans m_5)
  have m_5_0 := (congrFun g_9 (d + 10)).trans ((hset_ne _ _ (by omega)).trans m_5_0)
  have m_5_1 := (congrFun g_9 (d + 11)).trans ((hset_ne _ _ (by omega)).trans m_5_1)
  have m_5_2 := (congrFun g_9 (d + 12)).trans ((hset_ne _ _ (by omega)).trans m_5_2)
  have m_5_3 := (congrFun g_9 (d + 13)).trans ((hset_ne _ _ (by omega)).trans m_5_3)
  have m_5_4 := (congrFun g_9 (d + 14)).trans ((hset_ne _ _ (by omega)).trans m_5_4)
  have m_5_5 := (congrFun g_9 (d + 15)).trans ((hset_ne _ _ (by omega)).trans m_5_5)
  have m_7 := (congrFun g_9 (d + 16)).trans ((hset_ne _ _ (by omega)).trans m_7)
  have m_7_0 := (congrFun g_9 (d + 17)).trans ((hset_ne _ _ (by omega)).trans m_7_0)
  have m_7_1 := (congrFun g_9 (d + 18)).trans ((hset_ne _ _ (by omega)).trans m_7_1)
  have m_7_2 := (congrFun g_9 (d + 19)).trans ((hset_ne _ _ (by omega)).trans m_7_2)
  have m_7_3 := (congrFun g_9 (d + 20)).trans ((hset_ne _ _ (by omega)).trans m_7_3)
  have m_7_4 := (congrFun g_9 (d + 21)).trans ((hset_ne _ _ (by omega)).trans m_7_4)
  have m_7_5 := (congrFun g_9 (d + 22)).trans ((hset_ne _ _ (by omega)).trans m_7_5)
  have m_7_6 := (congrFun g_9 (d + 23)).trans ((hset_ne _ _ (by omega)).trans m_7_6)
  have m_7_7 := (congrFun g_9 (d + 24)).trans ((hset_ne _ _ (by omega)).trans m_7_7)
  have m_7_8 := (congrFun g_9 (d + 25)).trans ((hset_ne _ _ (by omega)).trans m_7_8)
  have m_7_9 := (congrFun g_9 (d + 26)).trans ((hset_ne _ _ (by omega)).trans m_7_9)
  have m_7_10 := (congrFun g_9 (d + 27)).trans ((hset_ne _ _ (by omega)).trans m_7_10)
  have m_7_11 := (congrFun g_9 (d + 28)).trans ((hset_ne _ _ (by omega)).trans m_7_11)
  have m_7_12 := (congrFun g_9 (d + 29)).trans ((hset_ne _ _ (by omega)).trans m_7_12)
  have m_7_13 := (congrFun g_9 (d + 30)).trans ((hset_ne _ _ (by omega)).trans m_7_13)
  have m_7_14 := (congrFun g_9 (d + 31)).trans ((hset_ne _ _ (by omega)).trans m_7_14)
  have m_7_15 := (congrFun g_9 (d + 32)).trans ((hset_ne _ _ (by omega)).trans m_7_15)
  have m_7_16 := (congrFun g_9 (d + 33)).trans ((hset_ne _ _ (by omega)).trans m_7_16)
  have m_7_17 := (congrFun g_9 (d + 34)).trans ((hset_ne _ _ (by omega)).trans m_7_17)
  have m_7_18 := (congrFun g_9 (d + 35)).trans ((hset_ne _ _ (by omega)).trans m_7_18)
  have m_7_19 := (congrFun g_9 (d + 36)).trans ((hset_ne _ _ (by omega)).trans m_7_19)
  have m_7_20 := (congrFun g_9 (d + 37)).trans ((hset_ne _ _ (by omega)).trans m_7_20)
  have m_7_21 := (congrFun g_9 (d + 38)).trans ((hset_ne _ _ (by omega)).trans m_7_21)
  have m_7_22 := (congrFun g_9 (d + 39)).trans ((hset_ne _ _ (by omega)).trans m_7_22)
  have m_7_23 := (congrFun g_9 (d + 40)).trans ((hset_ne _ _ (by omega)).trans m_7_23)
  have m_7_24 := (congrFun g_9 (d + 41)).trans ((hset_ne _ _ (by omega)).trans m_7_24)
  have m_7_25 := (congrFun g_9 (d + 42)).trans ((hset_ne _ _ (by omega)).trans m_7_25)
  have m_7_26 := (congrFun g_9 (d + 43)).trans ((hset_ne _ _ (by omega)).trans m_7_26)
  have m_7_27 := (congrFun g_9 (d + 44)).trans ((hset_ne _ _ (by omega)).trans m_7_27)
  have m_7_28 := (congrFun g_9 (d + 45)).trans ((hset_ne _ _ (by omega)).trans m_7_28)
  have m_7_29 := (congrFun g_9 (d + 46)).trans ((hset_ne _ _ (by omega)).trans m_7_29)
  have m_7_30 := (congrFun g_9 (d + 47)).trans ((hset_ne _ _ (by omega)).trans m_7_30)
  have m_7_31 := (congrFun g_9 (d + 48)).trans ((hset_ne _ _ (by omega)).trans m_7_31)
  have sm := sm.eqset g_9 (by omega) (by omega)
  exact aw_vret hX rfl rfl rfl rfl dX4_init_53 (by exact ⟨rfl, ⟨e0, a_1, ⟨⟨_, m_3, fun i hi => if_pos hi⟩, lt_s (lt_s (lt_s (lt_s (lt_s (lt_s (lt_0) m_3_0) m_3_1) m_3_2) m_3_3) m_3_4) m_3_5⟩, ⟨⟨_, m_5, fun i hi => if_pos hi⟩, lt_s (lt_s (lt_s (lt_s (lt_s (lt_s (lt_0) m_5_0) m_5_1) m_5_2) m_5_3) m_5_4) m_5_5⟩, ⟨⟨_, m_7, fun i hi => if_pos hi⟩, lt_s (lt_s (lt_s (lt_s (lt_s (lt_s (lt_s (lt_s (lt_s (lt_s (lt_s (lt_s (lt_s (lt_s (lt_s (lt_s (lt_s (lt_s (lt_s (lt_s (lt_s (lt_s (lt_s (lt_s (lt_s (lt_s (lt_s (lt_s (lt_s (lt_s (lt_s (lt_s (lt_0) m_7_0) m_7_1) m_7_2) m_7_3) m_7_4) m_7_5) m_7_6) m_7_7) m_7_8) m_7_9) m_7_10) m_7_11) m_7_12) m_7_13) m_7_14) m_7_15) m_7_16) m_7_17) m_7_18) m_7_19) m_7_20) m_7_21) m_7_22) m_7_23) m_7_24) m_7_25) m_7_26) m_7_27) m_7_28) m_7_29) m_7_30) m_7_31⟩⟩, sm⟩)
theorem tX6_init (l : Launch) (E : EV) (e0 : h d = some (cO 6 [.null, .int 0, .int 0, .int 0, .int 0])) : MX6_init l E (d + 1) h [.ref d] (fun r h' => r = none ∧ HRead h' d ((fun _ => 0, fun _ => 0, fun _ => 0, fun _ => 0, 0), 0, 0, 0, 0) ∧ Sm d (d + 6) h h') := by
  refine AM.intro mf_X6_init (by simp [Value.category]) (Nat.le_of_ble_eq_true rfl) (fun X hl hE hnm hX => ?_)
  subst hl
  subst hE
  show AW X _ _ 0 0 0 [some (.ref d)] []
  have sm : Sm d (d + 6) h h := Sm.rf
  refine aw_aload_n hX dX6_init_0 rfl ?_
  refine aw_obj hX RX6 rfl kl_X6_3 m_obj.1 m_obj.2 (by decide) (Nat.le_of_ble_eq_true rfl) dX6_init_1 ?_
  refine aw_aload_n hX dX6_init_4 rfl ?_
  refine aw_new hX RX6 rfl (C := RX7) (T := TX7) (N := 5) (ci := 7) (fs := [.null, .null, .null, .null, .int 0]) rfl in_X7 tyX7 tyX7_ok kc_X6_9 ki_X7.1 ki_X7.2 (by decide +kernel) rfl (by first | decide | omega) (by first | decide | omega) dX6_init_5 ?_
  refine AW.gen (fun h_1 g_1 => ?_)
  have e0 := (congrFun g_1 (d)).trans ((hset_ne _ _ (by omega)).trans e0)
  have sm := sm.eqset g_1 (by omega) (by omega)
  have a_1 := (congrFun g_1 (d + 1)).trans (hset_eq _ _ _)
  refine aw_dup hX dX6_init_8 rfl ?_
  refine aw_callIN hX RX6 "FlipBoard" rfl (tX7_init _ _ a_1) rfl mf_X7_init mi_X7_init rfl kl_X6_11 rfl (by decide) (Nat.le_of_ble_eq_true rfl) dX6_init_9 (by first | decide | omega) (fun v_9 h_9 p_9 => ?_)
  obtain ⟨rfl, q7, sm7⟩ := p_9
  have e0 := (sm7.at (q := d) (by omega)).trans e0
  have sm := sm.tr sm7 (by omega) (by omega)
  refine pf_X6_12 hX hnm dX6_init_12 (by assumption) (Nat.le_of_ble_eq_true rfl) ?_
  dsimp only [List.set_cons_zero, List.set_cons_succ]
  refine AW.gen (fun h_2 g_2 => ?_)
  have e0 := (congrFun g_2 (d)).trans (hset_eq _ _ _)
  have q7 := q7.sm (Sm.of_set g_2) (by omega)
  have sm := sm.eqset g_2 (by omega) (by omega)
  refine aw_aload_n hX dX6_init_15 rfl ?_
  refine aw_iconst hX (0) dX6_init_16 (by decide) ?_
  refine pt_X6_18 hX dX6_init_17 (by assumption) (Nat.le_of_ble_eq_true rfl) ?_
  dsimp only [List.set_cons_zero, List.set_cons_succ]
  refine AW.gen (fun h_3 g_3 => ?_)
  have e0 := (congrFun g_3 (d)).trans (hset_eq _ _ _)
  have q7 := q7.sm (Sm.of_set g_3) (by omega)
  have sm := sm.eqset g_3 (by omega) (by omega)
  refine aw_aload_n hX dX6_init_20 rfl ?_
  refine aw_iconst hX (0) dX6_init_21 (by decide) ?_
  refine pt_X6_22 hX dX6_init_22 (by assumption) (Nat.le_of_ble_eq_true rfl) ?_
  dsimp only [List.set_cons_zero, List.set_cons_succ]
  refine AW.gen (fun h_4 g_4 => ?_)
  have e0 := (congrFun g_4 (d)).trans (hset_eq _ _ _)
  have q7 := q7.sm (Sm.of_set g_4) (by omega)
  have sm := sm.eqset g_4 (by omega) (by omega)
  refine aw_aload_n hX dX6_init_25 rfl ?_
  refine aw_iconst hX (0) dX6_init_26 (by decide) ?_
  refine pt_X6_25 hX dX6_init_27 (by assumption) (Nat.le_of_ble_eq_true rfl) ?_
  dsimp only [List.set_cons_zero, List.set_cons_succ]
  refine AW.gen (fun h_5 g_5 => ?_)
  have e0 := (congrFun g_5 (d)).trans (hset_eq _ _ _)
  have q7 := q7.sm (Sm.of_set g_5) (by omega)
  have sm := sm.eqset g_5 (by omega) (by omega)
  refine aw_aload_n hX dX6_init_30 rfl ?_
  refine aw_iconst hX (0) dX6_init_31 (by decide) ?_
  refine pt_X6_28 hX dX6_init_32 (by assumption) (Nat.le_of_ble_eq_true rfl) ?_
  dsimp only [List.set_cons_zero, List.set_cons_succ]
  refine AW.gen (fun h_6 g_6 => ?_)
  have e0 := (congrFun g_6 (d)).trans (hset_eq _ _ _)
  have q7 := q7.sm (Sm.of_set g_6) (by omega)
  have sm := sm.eqset g_6 (by omega) (by omega)
  exact aw_vret hX rfl rfl rfl rfl dX6_init_35 (by exact ⟨rfl, ⟨e0, q7⟩, sm⟩)
theorem eF0 (E : EV) : eF E 0 = fun j => ([10, 0, 100] : List Int32).getD j 0 := rfl
def nu0 : IF := fun j => ([10, 0, 100] : List Int32).getD j 0
/-- a new state -/
def v0 : PV := ((nI 20, fun _ => 0, fun _ => 0, fun _ => 0, fun _ => 0, fun _ => 0), (0, 0, 0, 0, fun _ => 0), (fun _ => 0, fun _ => 0, fun _ => 0, fun _ => 0, 0), nu0)
theorem tX8_init (l : Launch) (E : EV) (e0 : h d = some (cO 8 [.null, .null, .null, .null])) : MX8_init l E (d + 1) h [.ref d] (fun r h' => r = none ∧ HState h' d v0 ∧ Sm d (d + 15) h h') := by
  refine AM.intro mf_X8_init (by simp [Value.category]) (Nat.le_of_ble_eq_true rfl) (fun X hl hE hnm hX => ?_)
  subst hl
  subst hE
  show AW X _ _ 0 0 0 [some (.ref d)] []
  have sm : Sm d (d + 15) h h := Sm.rf
  refine aw_aload_n hX dX8_init_0 rfl ?_
  refine aw_obj hX RX8 rfl kl_X8_3 m_obj.1 m_obj.2 (by decide) (Nat.le_of_ble_eq_true rfl) dX8_init_1 ?_
  refine aw_aload_n hX dX8_init_4 rfl ?_
  refine aw_new hX RX8 rfl (C := RX0) (T := TX0) (N := 6) (ci := 0) (fs := [.int 0, .null, .null, .null, .null, .null]) rfl in_X0 tyX0 tyX0_ok kc_X8_9 ki_X0.1 ki_X0.2 (by decide +kernel) rfl (by first | decide | omega) (by first | decide | omega) dX8_init_5 ?_
  refine AW.gen (fun h_1 g_1 => ?_)
  have e0 := (congrFun g_1 (d)).trans ((hset_ne _ _ (by omega)).trans e0)
  have sm := sm.eqset g_1 (by omega) (by omega)
  have a_1 := (congrFun g_1 (d + 1)).trans (hset_eq _ _ _)
  refine aw_dup hX dX8_init_8 rfl ?_
  refine aw_callIN hX RX8 "FlipBoard" rfl (tX0_init _ _ a_1) rfl mf_X0_init mi_X0_init rfl kl_X8_11 rfl (by decide) (Nat.le_of_ble_eq_true rfl) dX8_init_9 (by first | decide | omega) (fun v_9 h_9 p_9 => ?_)
  obtain ⟨rfl, q0, sm0⟩ := p_9
  have e0 := (sm0.at (q := d) (by omega)).trans e0
  have sm := sm.tr sm0 (by omega) (by omega)
  refine pf_X8_12 hX hnm dX8_init_12 (by assumption) (Nat.le_of_ble_eq_true rfl) ?_
  dsimp only [List.set_cons_zero, List.set_cons_succ]
  refine AW.gen (fun h_2 g_2 => ?_)
  have e0 := (congrFun g_2 (d)).trans (hset_eq _ _ _)
  have q0 := q0.sm (Sm.of_set g_2) (by omega)
  have sm := sm.eqset g_2 (by omega) (by omega)
  refine aw_aload_n hX dX8_init_15 rfl ?_
  refine aw_new hX RX8 rfl (C := RX3) (T := TX3) (N := 5) (ci := 3) (fs := [.int 0, .int 0, .int 0, .int 0, .null]) rfl in_X3 tyX3 tyX3_ok kc_X8_18 ki_X3.1 ki_X3.2 (by decide +kernel) rfl (by first | decide | omega) (by first | decide | omega) dX8_init_16 ?_
  refine AW.gen (fun h_3 g_3 => ?_)
  have e0 := (congrFun g_3 (d)).trans ((hset_ne _ _ (by omega)).trans e0)
  have q0 := q0.sm (Sm.of_set g_3) (by omega)
  have sm := sm.eqset g_3 (by omega) (by omega)
  have a_7 := (congrFun g_3 (d + 7)).trans (hset_eq _ _ _)
  refine aw_dup hX dX8_init_19 rfl ?_
  refine aw_callIN hX RX8 "FlipBoard" rfl (tX3_init _ _ a_7) rfl mf_X3_init mi_X3_init rfl kl_X8_20 rfl (by decide) (Nat.le_of_ble_eq_true rfl) dX8_init_20 (by first | decide | omega) (fun v_20 h_20 p_20 => ?_)
  obtain ⟨rfl, q3, sm3⟩ := p_20
  have e0 := (sm3.at (q := d) (by omega)).trans e0
  have q0 := q0.sm sm3 (by omega)
  have sm := sm.tr sm3 (by omega) (by omega)
  refine pf_X8_21 hX hnm dX8_init_23 (by assumption) (Nat.le_of_ble_eq_true rfl) ?_
  dsimp only [List.set_cons_zero, List.set_cons_succ]
  refine AW.gen (fun h_4 g_4 => ?_)
  have e0 := (congrFun g_4 (d)).trans (hset_eq _ _ _)
  have q0 := q0.sm (Sm.of_set g_4) (by omega)
  have q3 := q3.sm (Sm.of_set g_4) (by omega)
  have sm := sm.eqset g_4 (by omega) (by omega)
  refine aw_aload_n hX dX8_init_26 rfl ?_
  refine aw_new hX RX8 rfl (C := RX7) (T := TX7) (N := 5) (ci := 7) (fs := [.null, .null, .null, .null, .int 0]) rfl in_X7 tyX7 tyX7_ok kc_X8_25 ki_X7.1 ki_X7.2 (by decide +kernel) rfl (by first | decide | omega) (by first | decide | omega) dX8_init_27 ?_
  refine AW.gen (fun h_5 g_5 => ?_)
  have e0 := (congrFun g_5 (d)).trans ((hset_ne _ _ (by omega)).trans e0)
  have q0 := q0.sm (Sm.of_set g_5) (by omega)
  have q3 := q3.sm (Sm.of_set g_5) (by omega)
  have sm := sm.eqset g_5 (by omega) (by omega)
  have a_9 := (congrFun g_5 (d + 9)).trans (hset_eq _ _ _)
  refine aw_dup hX dX8_init_30 rfl ?_
  refine aw_callIN hX RX8 "FlipBoard" rfl (tX7_init _ _ a_9) rfl mf_X7_init mi_X7_init rfl kl_X8_27 rfl (by decide) (Nat.le_of_ble_eq_true rfl) dX8_init_31 (by first | decide | omega) (fun v_31 h_31 p_31 => ?_)
  obtain ⟨rfl, q7, sm7⟩ := p_31
  have e0 := (sm7.at (q := d) (by omega)).trans e0
  have q0 := q0.sm sm7 (by omega)
  have q3 := q3.sm sm7 (by omega)
  have sm := sm.tr sm7 (by omega) (by omega)
  refine pf_X8_28 hX hnm dX8_init_34 (by assumption) (Nat.le_of_ble_eq_true rfl) ?_
  dsimp only [List.set_cons_zero, List.set_cons_succ]
  refine AW.gen (fun h_6 g_6 => ?_)
  have e0 := (congrFun g_6 (d)).trans (hset_eq _ _ _)
  have q0 := q0.sm (Sm.of_set g_6) (by omega)
  have q3 := q3.sm (Sm.of_set g_6) (by omega)
  have q7 := q7.sm (Sm.of_set g_6) (by omega)
  have sm := sm.eqset g_6 (by omega) (by omega)
  refine aw_aload_n hX dX8_init_37 rfl ?_
  refine aw_getsN hX RX8 rfl (a := 0) (nm := "FIRST_NUMBERS") (by decide) kn_X8_32 dX8_init_38 ?_
  refine aw_clone0 hX RX8 rfl kl_X8_36 k_cl.1 k_cl.2.1 k_cl.2.2.1 k_cl.2.2.2 k_arr.2.2.2 (by decide) (Nat.le_of_ble_eq_true rfl) (by decide) (by decide) dX8_init_41 ?_
  refine AW.gen (fun h_c g_c => ?_)
  have e0 := (congrFun g_c d).trans ((hset_ne _ _ (by omega)).trans e0)
  have q0 := q0.sm (Sm.of_set g_c) (by omega)
  have q3 := q3.sm (Sm.of_set g_c) (by omega)
  have q7 := q7.sm (Sm.of_set g_c) (by omega)
  have sm := sm.eqset g_c (by omega) (by omega)
  have a_14 := (congrFun g_c (d + 14)).trans (hset_eq _ _ _)
  refine aw_castI hX RX8 rfl kc_X8_37 a_14 dX8_init_44 ?_
  refine pf_X8_41 hX hnm dX8_init_47 (by assumption) (Nat.le_of_ble_eq_true rfl) ?_
  dsimp only [List.set_cons_zero, List.set_cons_succ]
  refine AW.gen (fun h_7 g_7 => ?_)
  have e0 := (congrFun g_7 (d)).trans (hset_eq _ _ _)
  have q0 := q0.sm (Sm.of_set g_7) (by omega)
  have q3 := q3.sm (Sm.of_set g_7) (by omega)
  have q7 := q7.sm (Sm.of_set g_7) (by omega)
  have sm := sm.eqset g_7 (by omega) (by omega)
  have a_14 := (congrFun g_7 (d + 14)).trans ((hset_ne _ _ (by omega)).trans a_14)
  exact aw_vret hX rfl rfl rfl rfl dX8_init_50 (by exact ⟨rfl, ⟨e0, q0, q3, q7, a_14⟩, sm⟩)
theorem tX2_init (l : Launch) (E : EV) (e0 : h d = some (cO 2 [.null, .int 0, .int 0])) : MX2_init l E (d + 1) h [.ref d] (fun r h' => r = none ∧ HHist h' d 0 0 (fun _ => v0) ∧ Sm d (d + 92) h h') := by
  refine AM.intro mf_X2_init (by simp [Value.category]) (Nat.le_of_ble_eq_true rfl) (fun X hl hE hnm hX => ?_)
  subst hl
  subst hE
  show AW X _ _ 0 0 0 [some (.ref d), none] []
  have sm : Sm d (d + 92) h h := Sm.rf
  have loop : ∀ (g k : Nat) (hh : HP) (G : Nat → Option Nat), k ≤ 6 → 6 - k < g → hh d = some (cO 2 [.ref (d + 1), .int 0, .int 0]) → hh (d + 1) = some (cG 2 6 G) → (∀ i, i < k → G i = some (d + 2 + 15 * i)) → (∀ i, i < k → HState hh (d + 2 + 15 * i) v0) → Sm d (d + 92) h hh → AW X (d + 2 + 15 * k) hh (1 + 15 * k) (6 + 743 * k) 25 [some (.ref d), some (.int (nI k))] [] := by
    intro g
    induction g with
    | zero => intro k hh G h1 h2; omega
    | succ g ih =>
      intro k hh G h1 h2 e0 e1 hG hs sm
      refine aw_iload_n hX dX2_init_25 rfl ?_
      refine aw_bipush hX (6) dX2_init_26 (by decide) ?_
      refine aw_icmp_ge hX 50 dX2_init_28 (by decide) (fun c_28 => ?_) (fun c_28 => ?_)
      · have hk : k = 6 := lp_out h1 (by decide) c_28
        subst hk
        exact aw_vret hX rfl (by omega) rfl rfl dX2_init_50 ⟨rfl, ⟨e0, ⟨G, e1, hG⟩, hs⟩, sm⟩
      · have hk : k < 6 := lp_in h1 (by decide) c_28
        refine aw_aload_n hX dX2_init_31 rfl ?_
        refine gt_X2_11 hX dX2_init_32 (by assumption) (by exact rfl) ?_
        refine aw_iload_n hX dX2_init_35 rfl ?_
        refine aw_new hX RX2 rfl (C := RX8) (T := TX8) (N := 4) (ci := 8) (fs := [.null, .null, .null, .null]) rfl in_X8 tyX8 tyX8_ok kc_X2_9 ki_X8.1 ki_X8.2 (by decide +kernel) rfl (by first | decide | omega) (by first | decide | omega) dX2_init_36 ?_
        refine AW.gen (fun h_1 g_1 => ?_)
        have ep := (congrFun g_1 (d + 2 + 15 * k)).trans (hset_eq _ _ _)
        have e1' := (congrFun g_1 (d + 1)).trans ((hset_ne _ _ (by omega)).trans e1)
        have e0' := (congrFun g_1 d).trans ((hset_ne _ _ (by omega)).trans e0)
        refine aw_dup hX dX2_init_39 rfl ?_
        refine aw_callIN hX RX2 "FlipBoard" rfl (tX8_init _ _ ep) rfl mf_X8_init mi_X8_init rfl kl_X2_24 rfl (by decide) (Nat.le_of_ble_eq_true rfl) dX2_init_40 (by first | decide | omega) (fun v_40 h_40 p_40 => ?_)
        obtain ⟨rfl, ep, sm8⟩ := p_40
        have e1' := (sm8.at (by omega)).trans e1'
        have e0' := (sm8.at (by omega)).trans e0'
        refine aw_ast hX e1' ep.1 (vp_in_nI hk (by decide)) dX2_init_43 ?_
        rw [nI_clamp (by omega)]
        refine aw_iinc hX (nI (k + 1)) dX2_init_44 rfl (nI_1 k) ?_
        refine aw_goto hX 25 dX2_init_47 (by decide) ?_
        have sm1 := ((sm.eqset g_1 (by omega) (by omega)).tr sm8 (by omega) (by omega)).set (a := d + 1) (c := cG 2 6 (va_up G k (some (d + 2 + 15 * k)))) (by omega) (by omega)
        refine AW.cast (n' := d + 2 + 15 * (k + 1)) (k' := 1 + 15 * (k + 1)) (sl' := 6 + 743 * (k + 1)) (by omega) (by omega) (by omega) ?_
        exact ih (k + 1) _ (va_up G k (some (d + 2 + 15 * k))) hk (by omega) ((hset_ne _ _ (by omega)).trans e0') (hset_eq _ _ _) (fun i hi => by by_cases e : i = k; (rw [e]; exact if_pos rfl); (exact (show va_up G k _ i = G i from if_neg e).trans (hG i (by omega)))) (fun i hi => by by_cases e : i = k; (rw [e]; exact ep.off _ (by omega)); (exact (((hs i (by omega)).sm (Sm.of_set g_1) (by omega)).sm sm8 (by omega)).off _ (by omega))) sm1
  refine aw_aload_n hX dX2_init_0 rfl ?_
  refine aw_obj hX RX2 rfl kl_X2_3 m_obj.1 m_obj.2 (by decide) (Nat.le_of_ble_eq_true rfl) dX2_init_1 ?_
  refine aw_aload_n hX dX2_init_4 rfl ?_
  refine aw_bipush hX (6) dX2_init_5 (by decide) ?_
  refine aw_newst hX RX2 rfl 6 kc_X2_9 k_arr.2.2.1 (by decide) (by decide) (by decide) (by decide) (by decide) dX2_init_7 ?_
  refine AW.gen (fun h_1 g_1 => ?_)
  have e0 := (congrFun g_1 (d)).trans ((hset_ne _ _ (by omega)).trans e0)
  have sm := sm.eqset g_1 (by omega) (by omega)
  have a_1 := (congrFun g_1 (d + 1)).trans (hset_eq _ _ _)
  refine pf_X2_11 hX hnm dX2_init_10 (by assumption) (Nat.le_of_ble_eq_true rfl) ?_
  dsimp only [List.set_cons_zero, List.set_cons_succ]
  refine AW.gen (fun h_2 g_2 => ?_)
  have e0 := (congrFun g_2 (d)).trans (hset_eq _ _ _)
  have a_1 := (congrFun g_2 (d + 1)).trans ((hset_ne _ _ (by omega)).trans a_1)
  have sm := sm.eqset g_2 (by omega) (by omega)
  refine aw_aload_n hX dX2_init_13 rfl ?_
  refine aw_iconst hX (0) dX2_init_14 (by decide) ?_
  refine pt_X2_17 hX dX2_init_15 (by assumption) (Nat.le_of_ble_eq_true rfl) ?_
  dsimp only [List.set_cons_zero, List.set_cons_succ]
  refine AW.gen (fun h_3 g_3 => ?_)
  have e0 := (congrFun g_3 (d)).trans (hset_eq _ _ _)
  have a_1 := (congrFun g_3 (d + 1)).trans ((hset_ne _ _ (by omega)).trans a_1)
  have sm := sm.eqset g_3 (by omega) (by omega)
  refine aw_aload_n hX dX2_init_18 rfl ?_
  refine aw_iconst hX (0) dX2_init_19 (by decide) ?_
  refine pt_X2_21 hX dX2_init_20 (by assumption) (Nat.le_of_ble_eq_true rfl) ?_
  dsimp only [List.set_cons_zero, List.set_cons_succ]
  refine AW.gen (fun h_4 g_4 => ?_)
  have e0 := (congrFun g_4 (d)).trans (hset_eq _ _ _)
  have a_1 := (congrFun g_4 (d + 1)).trans ((hset_ne _ _ (by omega)).trans a_1)
  have sm := sm.eqset g_4 (by omega) (by omega)
  refine aw_iconst hX (0) dX2_init_23 (by decide) ?_
  refine aw_istore_n hX dX2_init_24 (Nat.le_of_ble_eq_true rfl) ?_
  exact loop 7 0 _ _ (by decide) (by decide) e0 a_1 (fun i hi => absurd hi (Nat.not_lt_zero _)) (fun i hi => absurd hi (Nat.not_lt_zero _)) sm
end CTOR
