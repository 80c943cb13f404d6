/-! whole numbers as ints; Meter, Script -/
def iI (z : Int) : Int32 := Int32.ofInt z
theorem iI_n (n : Nat) : nI n = iI n := Int32.ofInt_eq_ofNat.symm
theorem iI_add (a b : Int) : iI a + iI b = iI (a + b) := (Int32.ofInt_add a b).symm
theorem iI_sub (a b : Int) : iI a - iI b = iI (a - b) := (Int32.ofInt_sub a b).symm
theorem iI_toInt {z : Int} (h1 : -2147483648 ≤ z) (h2 : z < 2147483648) : (iI z).toInt = z := Int32.toInt_ofInt_of_le h1 h2
theorem iI_lt {a b : Int} (h1 : -2147483648 ≤ a) (h2 : a < 2147483648) (h3 : -2147483648 ≤ b) (h4 : b < 2147483648) : iI a < iI b ↔ a < b := by rw [Int32.lt_iff_toInt_lt, iI_toInt h1 h2, iI_toInt h3 h4]
theorem iI_le {a b : Int} (h1 : -2147483648 ≤ a) (h2 : a < 2147483648) (h3 : -2147483648 ≤ b) (h4 : b < 2147483648) : iI a ≤ iI b ↔ a ≤ b := by rw [Int32.le_iff_toInt_le, iI_toInt h1 h2, iI_toInt h3 h4]
theorem iI_inj {a b : Int} (h1 : -2147483648 ≤ a) (h2 : a < 2147483648) (h3 : -2147483648 ≤ b) (h4 : b < 2147483648) : iI a = iI b ↔ a = b := by rw [← Int32.toInt_inj, iI_toInt h1 h2, iI_toInt h3 h4]
abbrev nF (f : Nat → Nat) : IF := fun j => nI (f j)
def updN (f : Nat → Nat) (k v : Nat) : Nat → Nat := fun j => if j = k then v else f j
theorem updN_eq (f : Nat → Nat) (k v : Nat) : updN f k v k = v := if_pos rfl
theorem updN_ne (f : Nat → Nat) {k j : Nat} (v : Nat) (h : j ≠ k) : updN f k v j = f j := if_neg h
theorem upd_nF (f : Nat → Nat) (k v : Nat) : upd (nF f) k (nI v) = nF (updN f k v) := by
  funext j
  by_cases e : j = k
  · subst e
    rw [pk_us, show nF (updN f j v) j = nI (updN f j v j) from rfl, updN_eq]
  · rw [pk_un e, show nF (updN f k v) j = nI (updN f k v j) from rfl, updN_ne f v e]
def HMeter (h : HP) (d : Nat) (fl tr po : Int32) (T : Nat) (re : IF) : Prop :=
  h d = some (cO 3 [.int fl, .int tr, .int po, .int (nI T), .ref (d + 1)]) ∧ h (d + 1) = some (cI 20 re)
section METER
variable {h : HP} {d : Nat} {fl tr po : Int32} {T : Nat} {re : IF}
theorem HMeter.sm {h' : HP} {lo hi : Nat} (H : HMeter h d fl tr po T re) (s : Sm lo hi h h') (hq : hi ≤ d ∨ d + 2 ≤ lo) : HMeter h' d fl tr po T re :=
  ⟨(s.at (by omega)).trans H.1, (s.at (by omega)).trans H.2⟩
theorem HMeter.off (H : HMeter h d fl tr po T re) {a : Nat} (c : AC) (ha : a < d ∨ d + 2 ≤ a) : HMeter (hset h a c) d fl tr po T re :=
  H.sm (lo := a) (hi := a + 1) (Sm.rf.set (Nat.le_refl _) (Nat.lt_succ_self _)) (by omega)
theorem HMeter.a0 (H : HMeter h d fl tr po T re) (fl' tr' po' : Int32) (T' : Nat) : HMeter (hset h d (cO 3 [.int fl', .int tr', .int po', .int (nI T'), .ref (d + 1)])) d fl' tr' po' T' re :=
  ⟨hset_eq _ _ _, (hset_ne _ _ (by omega)).trans H.2⟩
theorem HMeter.a1 (H : HMeter h d fl tr po T re) (f : IF) : HMeter (hset h (d + 1) (cI 20 f)) d fl tr po T f :=
  ⟨(hset_ne _ _ (by omega)).trans H.1, hset_eq _ _ _⟩
theorem tX3_copyFrom (l : Launch) (E : EV) (n : Nat) {d' : Nat} {fl' tr' po' : Int32} {T' : Nat} {re' : IF} (H : HMeter h d fl tr po T re) (H' : HMeter h d' fl' tr' po' T' re') (hd : d + 2 ≤ d' ∨ d' + 2 ≤ d) : MX3_copyFrom l E n h [.ref d, .ref d'] (fun v h' => v = none ∧ HMeter h' d fl' tr' po' T' re' ∧ Sm d (d + 2) h h') := by
  have e := H
  have g := H'
  obtain ⟨e0, e1⟩ := H
  obtain ⟨g0, g1⟩ := H'
  refine AM.intro mf_X3_copyFrom (by simp [Value.category]) (Nat.le_of_ble_eq_true rfl) (fun X hl hE hnm hX => ?_)
  subst hl
  subst hE
  show AW X _ _ 0 0 0 [some (.ref d), some (.ref d')] []
  refine aw_aload_n hX dX3_copyFrom_0 rfl ?_
  refine aw_aload_n hX dX3_copyFrom_1 rfl ?_
  refine gt_X3_9 hX dX3_copyFrom_2 (by assumption) (by exact rfl) ?_
  refine pt_X3_9 hX dX3_copyFrom_5 (by assumption) (Nat.le_of_ble_eq_true rfl) ?_
  dsimp only [List.set_cons_zero, List.set_cons_succ]
  have e := e.a0 fl' tr po T
  have g := g.off (a := d) (cO 3 [.int fl', .int tr, .int po, .int (nI T), .ref (d + 1)]) (by omega)
  obtain ⟨e0, e1⟩ := id e
  obtain ⟨g0, g1⟩ := id g
  refine aw_aload_n hX dX3_copyFrom_8 rfl ?_
  refine aw_aload_n hX dX3_copyFrom_9 rfl ?_
  refine gt_X3_15 hX dX3_copyFrom_10 (by assumption) (by exact rfl) ?_
  refine pt_X3_15 hX dX3_copyFrom_13 (by assumption) (Nat.le_of_ble_eq_true rfl) ?_
  dsimp only [List.set_cons_zero, List.set_cons_succ]
  have e := e.a0 fl' tr' po T
  have g := g.off (a := d) (cO 3 [.int fl', .int tr', .int po, .int (nI T), .ref (d + 1)]) (by omega)
  obtain ⟨e0, e1⟩ := id e
  obtain ⟨g0, g1⟩ := id g
  refine aw_aload_n hX dX3_copyFrom_16 rfl ?_
  refine aw_aload_n hX dX3_copyFrom_17 rfl ?_
  refine gt_X3_18 hX dX3_copyFrom_18 (by assumption) (by exact rfl) ?_
  refine pt_X3_18 hX dX3_copyFrom_21 (by assumption) (Nat.le_of_ble_eq_true rfl) ?_
  dsimp only [List.set_cons_zero, List.set_cons_succ]
  have e := e.a0 fl' tr' po' T
  have g := g.off (a := d) (cO 3 [.int fl', .int tr', .int po', .int (nI T), .ref (d + 1)]) (by omega)
  obtain ⟨e0, e1⟩ := id e
  obtain ⟨g0, g1⟩ := id g
  refine aw_aload_n hX dX3_copyFrom_24 rfl ?_
  refine aw_aload_n hX dX3_copyFrom_25 rfl ?_
  refine gt_X3_21 hX dX3_copyFrom_26 (by assumption) (by exact rfl) ?_
  refine pt_X3_21 hX dX3_copyFrom_29 (by assumption) (Nat.le_of_ble_eq_true rfl) ?_
  dsimp only [List.set_cons_zero, List.set_cons_succ]
  have e := e.a0 fl' tr' po' T'
  have g := g.off (a := d) (cO 3 [.int fl', .int tr', .int po', .int (nI T'), .ref (d + 1)]) (by omega)
  obtain ⟨e0, e1⟩ := id e
  obtain ⟨g0, g1⟩ := id g
  refine aw_aload_n hX dX3_copyFrom_32 rfl ?_
  refine gt_X3_24 hX dX3_copyFrom_33 (by assumption) (by exact rfl) ?_
  refine aw_aload_n hX dX3_copyFrom_36 rfl ?_
  refine gt_X3_24 hX dX3_copyFrom_37 (by assumption) (by exact rfl) ?_
  refine aw_callSN0 hX RX3 "FlipBoard" rfl (tX9_copy _ _ _ g1 e1 (by decide)) rfl mf_X9_copy mt_X9_copy kl_X3_28 rfl (by decide) (Nat.le_of_ble_eq_true rfl) dX3_copyFrom_40 (by decide) (fun v_40 h_40 p_40 => ?_)
  obtain ⟨rfl, rfl⟩ := p_40
  have e := e.a1 re'
  exact aw_vret hX rfl rfl rfl rfl dX3_copyFrom_43 (by exact ⟨rfl, e, by repeat first | exact Sm.rf | refine Sm.set ?_ (by omega) (by omega)⟩)
theorem tX3_renew (l : Launch) (E : EV) (n : Nat) (H : HMeter h d fl tr po T re) : MX3_renew l E n h [.ref d] (fun v h' => v = none ∧ HMeter h' d 0 0 0 0 (fun _ => 0) ∧ Sm d (d + 2) h h') := by
  have e := H
  obtain ⟨e0, e1⟩ := H
  refine AM.intro mf_X3_renew (by simp [Value.category]) (Nat.le_of_ble_eq_true rfl) (fun X hl hE hnm hX => ?_)
  subst hl
  subst hE
  show AW X _ _ 0 0 0 [some (.ref d)] []
  refine aw_aload_n hX dX3_renew_0 rfl ?_
  refine aw_iconst hX (0) dX3_renew_1 (by decide) ?_
  refine pt_X3_9 hX dX3_renew_2 (by assumption) (Nat.le_of_ble_eq_true rfl) ?_
  dsimp only [List.set_cons_zero, List.set_cons_succ]
  have e := e.a0 0 tr po T
  obtain ⟨e0, e1⟩ := id e
  refine aw_aload_n hX dX3_renew_5 rfl ?_
  refine aw_iconst hX (0) dX3_renew_6 (by decide) ?_
  refine pt_X3_15 hX dX3_renew_7 (by assumption) (Nat.le_of_ble_eq_true rfl) ?_
  dsimp only [List.set_cons_zero, List.set_cons_succ]
  have e := e.a0 0 0 po T
  obtain ⟨e0, e1⟩ := id e
  refine aw_aload_n hX dX3_renew_10 rfl ?_
  refine aw_iconst hX (0) dX3_renew_11 (by decide) ?_
  refine pt_X3_18 hX dX3_renew_12 (by assumption) (Nat.le_of_ble_eq_true rfl) ?_
  dsimp only [List.set_cons_zero, List.set_cons_succ]
  have e := e.a0 0 0 0 T
  obtain ⟨e0, e1⟩ := id e
  refine aw_aload_n hX dX3_renew_15 rfl ?_
  refine aw_iconst hX (0) dX3_renew_16 (by decide) ?_
  refine pt_X3_21 hX dX3_renew_17 (by assumption) (Nat.le_of_ble_eq_true rfl) ?_
  dsimp only [List.set_cons_zero, List.set_cons_succ]
  have e := e.a0 0 0 0 0
  obtain ⟨e0, e1⟩ := id e
  refine aw_aload_n hX dX3_renew_20 rfl ?_
  refine gt_X3_24 hX dX3_renew_21 (by assumption) (by exact rfl) ?_
  refine aw_iconst hX (0) dX3_renew_24 (by decide) ?_
  refine aw_callS0 hX RX3 rfl (tJ7_fill _ _ _ e1 (by decide) 0) rfl mf_J7_fill_53178 mt_J7_fill_53178 kl_X3_32 rfl (by decide) (Nat.le_of_ble_eq_true rfl) dX3_renew_25 (by decide) (fun v_25 h_25 p_25 => ?_)
  obtain ⟨rfl, rfl⟩ := p_25
  have e := e.a1 (fun _ => 0)
  exact aw_vret hX rfl rfl rfl rfl dX3_renew_28 (by exact ⟨rfl, e, by repeat first | exact Sm.rf | refine Sm.set ?_ (by omega) (by omega)⟩)
theorem tX3_addSecond (l : Launch) (E : EV) (n : Nat) (H : HMeter h d fl tr po T re) (hT : T < 2 ^ 30) (u : Int32) : MX3_addSecond l E n h [.ref d, .int u] (fun v h' => v = none ∧ HMeter h' d fl tr (po + u) (T + 1) (upd re (T % 20) u) ∧ Sm d (d + 2) h h') := by
  have e := H
  obtain ⟨e0, e1⟩ := H
  refine AM.intro mf_X3_addSecond (by simp [Value.category]) (Nat.le_of_ble_eq_true rfl) (fun X hl hE hnm hX => ?_)
  subst hl
  subst hE
  show AW X _ _ 0 0 0 [some (.ref d), some (.int u)] []
  refine aw_aload_n hX dX3_addSecond_0 rfl ?_
  refine gt_X3_24 hX dX3_addSecond_1 (by assumption) (by exact rfl) ?_
  refine aw_aload_n hX dX3_addSecond_4 rfl ?_
  refine gt_X3_21 hX dX3_addSecond_5 (by assumption) (by exact rfl) ?_
  refine aw_bipush hX (20) dX3_addSecond_8 (by decide) ?_
  refine aw_callSp hX RX3 rfl (tJ9_floorMod _ _ _ _ (a := T) (b := 20) (by omega) (by decide) (by decide)) rfl mf_J9_floorMod_7cf53 mt_J9_floorMod_7cf53 kl_X3_38 rfl (by decide) (Nat.le_of_ble_eq_true rfl) dX3_addSecond_10 (by decide) ?_
  refine aw_iload_n hX dX3_addSecond_13 rfl ?_
  refine aw_iastN hX (T % 20) (by assumption) rfl (Nat.mod_lt _ (by decide)) (by first | decide | assumption) dX3_addSecond_14 ?_
  have e := e.a1 (upd re (T % 20) u)
  obtain ⟨e0, e1⟩ := id e
  refine aw_aload_n hX dX3_addSecond_15 rfl ?_
  refine aw_dup hX dX3_addSecond_16 rfl ?_
  refine gt_X3_21 hX dX3_addSecond_17 (by assumption) (by exact rfl) ?_
  refine aw_iconst hX (1) dX3_addSecond_20 (by decide) ?_
  refine aw_iadd hX dX3_addSecond_21 ?_
  rw [nI_1]
  refine pt_X3_21 hX dX3_addSecond_22 (by assumption) (Nat.le_of_ble_eq_true rfl) ?_
  dsimp only [List.set_cons_zero, List.set_cons_succ]
  have e := e.a0 fl tr po (T + 1)
  obtain ⟨e0, e1⟩ := id e
  refine aw_aload_n hX dX3_addSecond_25 rfl ?_
  refine aw_dup hX dX3_addSecond_26 rfl ?_
  refine gt_X3_18 hX dX3_addSecond_27 (by assumption) (by exact rfl) ?_
  refine aw_iload_n hX dX3_addSecond_30 rfl ?_
  refine aw_iadd hX dX3_addSecond_31 ?_
  refine pt_X3_18 hX dX3_addSecond_32 (by assumption) (Nat.le_of_ble_eq_true rfl) ?_
  dsimp only [List.set_cons_zero, List.set_cons_succ]
  have e := e.a0 fl tr (po + u) (T + 1)
  exact aw_vret hX rfl rfl rfl rfl dX3_addSecond_35 (by exact ⟨rfl, e, by repeat first | exact Sm.rf | refine Sm.set ?_ (by omega) (by omega)⟩)
theorem tX3_powerOf (l : Launch) (E : EV) (n : Nat) (H : HMeter h d fl tr po T re) (hT : T < 2 ^ 30) {g : Nat} (hg : g ≤ T) : MX3_powerOf l E n h [.ref d, .int (nI g)] (PR (.int (re ((T - g) % 20))) h) := by
  obtain ⟨e0, e1⟩ := H
  refine AM.intro mf_X3_powerOf (by simp [Value.category]) (Nat.le_of_ble_eq_true rfl) (fun X hl hE hnm hX => ?_)
  subst hl
  subst hE
  show AW X _ _ 0 0 0 [some (.ref d), some (.int (nI g))] []
  refine aw_aload_n hX dX3_powerOf_0 rfl ?_
  refine gt_X3_24 hX dX3_powerOf_1 (by assumption) (by exact rfl) ?_
  refine aw_aload_n hX dX3_powerOf_4 rfl ?_
  refine gt_X3_21 hX dX3_powerOf_5 (by assumption) (by exact rfl) ?_
  refine aw_iload_n hX dX3_powerOf_8 rfl ?_
  refine aw_isub hX dX3_powerOf_9 ?_
  rw [pk_sub hg]
  refine aw_bipush hX (20) dX3_powerOf_10 (by decide) ?_
  refine aw_callSp hX RX3 rfl (tJ9_floorMod _ _ _ _ (a := T - g) (b := 20) (by omega) (by decide) (by decide)) rfl mf_J9_floorMod_7cf53 mt_J9_floorMod_7cf53 kl_X3_38 rfl (by decide) (Nat.le_of_ble_eq_true rfl) dX3_powerOf_12 (by decide) ?_
  refine aw_ialdN hX ((T - g) % 20) (by assumption) rfl (Nat.mod_lt _ (by decide)) (by first | decide | assumption) dX3_powerOf_15 ?_
  exact aw_iret hX rfl rfl rfl rfl dX3_powerOf_16 (by exact ⟨rfl, rfl⟩)
end METER
def HScript (h : HP) (d : Nat) (co : IF) (wd cr ln : Nat → Nat) (K : Nat) : Prop :=
  h d = some (cO 7 [.ref (d + 1), .ref (d + 2), .ref (d + 3), .ref (d + 4), .int (nI K)]) ∧ h (d + 1) = some (cI 130 co) ∧ h (d + 2) = some (cI 26 (nF wd)) ∧ h (d + 3) = some (cI 96 (nF cr)) ∧ h (d + 4) = some (cI 8 (nF ln))
def wF (wd : Nat → Nat) (c : Nat) : Nat := if c = 26 then 2 else wd c
def cF (co : IF) (c i : Nat) : Int32 := if c = 26 then 0 else co (c * 5 + i)
section SCRIPT
variable {h : HP} {d : Nat} {co : IF} {wd cr ln : Nat → Nat} {K : Nat}
theorem HScript.sm {h' : HP} {lo hi : Nat} (H : HScript h d co wd cr ln K) (s : Sm lo hi h h') (hq : hi ≤ d ∨ d + 5 ≤ lo) : HScript h' d co wd cr ln K :=
  ⟨(s.at (by omega)).trans H.1, (s.at (by omega)).trans H.2.1, (s.at (by omega)).trans H.2.2.1, (s.at (by omega)).trans H.2.2.2.1, (s.at (by omega)).trans H.2.2.2.2⟩
theorem HScript.off (H : HScript h d co wd cr ln K) {a : Nat} (c : AC) (ha : a < d ∨ d + 5 ≤ a) : HScript (hset h a c) d co wd cr ln K :=
  H.sm (lo := a) (hi := a + 1) (Sm.rf.set (Nat.le_refl _) (Nat.lt_succ_self _)) (by omega)
theorem HScript.a0 (H : HScript h d co wd cr ln K) (K' : Nat) : HScript (hset h d (cO 7 [.ref (d + 1), .ref (d + 2), .ref (d + 3), .ref (d + 4), .int (nI K')])) d co wd cr ln K' :=
  ⟨hset_eq _ _ _, (hset_ne _ _ (by omega)).trans H.2.1, (hset_ne _ _ (by omega)).trans H.2.2.1, (hset_ne _ _ (by omega)).trans H.2.2.2.1, (hset_ne _ _ (by omega)).trans H.2.2.2.2⟩
theorem HScript.a1 (H : HScript h d co wd cr ln K) (f : IF) : HScript (hset h (d + 1) (cI 130 f)) d f wd cr ln K :=
  ⟨(hset_ne _ _ (by omega)).trans H.1, hset_eq _ _ _, (hset_ne _ _ (by omega)).trans H.2.2.1, (hset_ne _ _ (by omega)).trans H.2.2.2.1, (hset_ne _ _ (by omega)).trans H.2.2.2.2⟩
theorem HScript.a2 (H : HScript h d co wd cr ln K) (f : Nat → Nat) : HScript (hset h (d + 2) (cI 26 (nF f))) d co f cr ln K :=
  ⟨(hset_ne _ _ (by omega)).trans H.1, (hset_ne _ _ (by omega)).trans H.2.1, hset_eq _ _ _, (hset_ne _ _ (by omega)).trans H.2.2.2.1, (hset_ne _ _ (by omega)).trans H.2.2.2.2⟩
theorem HScript.a3 (H : HScript h d co wd cr ln K) (f : Nat → Nat) : HScript (hset h (d + 3) (cI 96 (nF f))) d co wd f ln K :=
  ⟨(hset_ne _ _ (by omega)).trans H.1, (hset_ne _ _ (by omega)).trans H.2.1, (hset_ne _ _ (by omega)).trans H.2.2.1, hset_eq _ _ _, (hset_ne _ _ (by omega)).trans H.2.2.2.2⟩
theorem HScript.a4 (H : HScript h d co wd cr ln K) (f : Nat → Nat) : HScript (hset h (d + 4) (cI 8 (nF f))) d co wd cr f K :=
  ⟨(hset_ne _ _ (by omega)).trans H.1, (hset_ne _ _ (by omega)).trans H.2.1, (hset_ne _ _ (by omega)).trans H.2.2.1, (hset_ne _ _ (by omega)).trans H.2.2.2.1, hset_eq _ _ _⟩
theorem tX7_copyFrom (l : Launch) (E : EV) (n : Nat) {d' : Nat} {co' : IF} {wd' cr' ln' : Nat → Nat} {K' : Nat} (H : HScript h d co wd cr ln K) (H' : HScript h d' co' wd' cr' ln' K') (hd : d + 5 ≤ d' ∨ d' + 5 ≤ d) : MX7_copyFrom l E n h [.ref d, .ref d'] (fun v h' => v = none ∧ HScript h' d co' wd' cr' ln' K' ∧ Sm d (d + 5) h h') := by
  have e := H
  have g := H'
  obtain ⟨e0, e1, e2, e3, e4⟩ := H
  obtain ⟨g0, g1, g2, g3, g4⟩ := H'
  refine AM.intro mf_X7_copyFrom (by simp [Value.category]) (Nat.le_of_ble_eq_true rfl) (fun X hl hE hnm hX => ?_)
  subst hl
  subst hE
  show AW X _ _ 0 0 0 [some (.ref d), some (.ref d')] []
  refine aw_aload_n hX dX7_copyFrom_0 rfl ?_
  refine gt_X7_9 hX dX7_copyFrom_1 (by assumption) (by exact rfl) ?_
  refine aw_aload_n hX dX7_copyFrom_4 rfl ?_
  refine gt_X7_9 hX dX7_copyFrom_5 (by assumption) (by exact rfl) ?_
  refine aw_callSN0 hX RX7 "FlipBoard" rfl (tX9_copy _ _ _ g1 e1 (by decide)) rfl mf_X9_copy mt_X9_copy kl_X7_28 rfl (by decide) (Nat.le_of_ble_eq_true rfl) dX7_copyFrom_8 (by decide) (fun v_8 h_8 p_8 => ?_)
  obtain ⟨rfl, rfl⟩ := p_8
  have e := e.a1 co'
  have g := g.off (a := d + 1) (cI 130 co') (by omega)
  obtain ⟨e0, e1, e2, e3, e4⟩ := id e
  obtain ⟨g0, g1, g2, g3, g4⟩ := id g
  refine aw_aload_n hX dX7_copyFrom_11 rfl ?_
  refine gt_X7_15 hX dX7_copyFrom_12 (by assumption) (by exact rfl) ?_
  refine aw_aload_n hX dX7_copyFrom_15 rfl ?_
  refine gt_X7_15 hX dX7_copyFrom_16 (by assumption) (by exact rfl) ?_
  refine aw_callSN0 hX RX7 "FlipBoard" rfl (tX9_copy _ _ _ g2 e2 (by decide)) rfl mf_X9_copy mt_X9_copy kl_X7_28 rfl (by decide) (Nat.le_of_ble_eq_true rfl) dX7_copyFrom_19 (by decide) (fun v_19 h_19 p_19 => ?_)
  obtain ⟨rfl, rfl⟩ := p_19
  have e := e.a2 wd'
  have g := g.off (a := d + 2) (cI 26 (nF wd')) (by omega)
  obtain ⟨e0, e1, e2, e3, e4⟩ := id e
  obtain ⟨g0, g1, g2, g3, g4⟩ := id g
  refine aw_aload_n hX dX7_copyFrom_22 rfl ?_
  refine gt_X7_18 hX dX7_copyFrom_23 (by assumption) (by exact rfl) ?_
  refine aw_aload_n hX dX7_copyFrom_26 rfl ?_
  refine gt_X7_18 hX dX7_copyFrom_27 (by assumption) (by exact rfl) ?_
  refine aw_callSN0 hX RX7 "FlipBoard" rfl (tX9_copy _ _ _ g3 e3 (by decide)) rfl mf_X9_copy mt_X9_copy kl_X7_28 rfl (by decide) (Nat.le_of_ble_eq_true rfl) dX7_copyFrom_30 (by decide) (fun v_30 h_30 p_30 => ?_)
  obtain ⟨rfl, rfl⟩ := p_30
  have e := e.a3 cr'
  have g := g.off (a := d + 3) (cI 96 (nF cr')) (by omega)
  obtain ⟨e0, e1, e2, e3, e4⟩ := id e
  obtain ⟨g0, g1, g2, g3, g4⟩ := id g
  refine aw_aload_n hX dX7_copyFrom_33 rfl ?_
  refine gt_X7_21 hX dX7_copyFrom_34 (by assumption) (by exact rfl) ?_
  refine aw_aload_n hX dX7_copyFrom_37 rfl ?_
  refine gt_X7_21 hX dX7_copyFrom_38 (by assumption) (by exact rfl) ?_
  refine aw_callSN0 hX RX7 "FlipBoard" rfl (tX9_copy _ _ _ g4 e4 (by decide)) rfl mf_X9_copy mt_X9_copy kl_X7_28 rfl (by decide) (Nat.le_of_ble_eq_true rfl) dX7_copyFrom_41 (by decide) (fun v_41 h_41 p_41 => ?_)
  obtain ⟨rfl, rfl⟩ := p_41
  have e := e.a4 ln'
  have g := g.off (a := d + 4) (cI 8 (nF ln')) (by omega)
  obtain ⟨e0, e1, e2, e3, e4⟩ := id e
  obtain ⟨g0, g1, g2, g3, g4⟩ := id g
  refine aw_aload_n hX dX7_copyFrom_44 rfl ?_
  refine aw_aload_n hX dX7_copyFrom_45 rfl ?_
  refine gt_X7_24 hX dX7_copyFrom_46 (by assumption) (by exact rfl) ?_
  refine pt_X7_24 hX dX7_copyFrom_49 (by assumption) (Nat.le_of_ble_eq_true rfl) ?_
  dsimp only [List.set_cons_zero, List.set_cons_succ]
  have e := e.a0 K'
  exact aw_vret hX rfl rfl rfl rfl dX7_copyFrom_52 (by exact ⟨rfl, e, by repeat first | exact Sm.rf | refine Sm.set ?_ (by omega) (by omega)⟩)
theorem tX7_isLetter (l : Launch) (E : EV) (n : Nat) (h : HP) (d : Nat) (c : Int32) : MX7_isLetter l E n h [.ref d, .int c] (PR (.int (bI (0 ≤ c ∧ c < 26))) h) := by
  refine AM.intro mf_X7_isLetter (by simp [Value.category]) (Nat.le_of_ble_eq_true rfl) (fun X hl hE hnm hX => ?_)
  subst hl
  subst hE
  show AW X _ _ 0 0 0 [some (.ref d), some (.int c)] []
  refine aw_iload_n hX dX7_isLetter_0 rfl ?_
  refine aw_if_lt hX 14 dX7_isLetter_1 (by decide) (fun c_1 => ?_) (fun c_1 => ?_)
  · refine aw_iconst hX (0) dX7_isLetter_14 (by decide) ?_
    exact aw_zret hX rfl (by first | exact Or.inl rfl | exact Or.inr rfl | assumption) rfl rfl rfl dX7_isLetter_15 (by first | exact prT (by simp only [bI_eq0, Decidable.not_not, Int32.lt_iff_toInt_lt, Int32.le_iff_toInt_le, Int32.reduceToInt] at c_1 ⊢; omega) | exact prF (by simp only [bI_eq0, Decidable.not_not, Int32.lt_iff_toInt_lt, Int32.le_iff_toInt_le, Int32.reduceToInt] at c_1 ⊢; omega))
  · refine aw_iload_n hX dX7_isLetter_4 rfl ?_
    refine aw_bipush hX (26) dX7_isLetter_5 (by decide) ?_
    refine aw_icmp_ge hX 14 dX7_isLetter_7 (by decide) (fun c_7 => ?_) (fun c_7 => ?_)
    · refine aw_iconst hX (0) dX7_isLetter_14 (by decide) ?_
      exact aw_zret hX rfl (by first | exact Or.inl rfl | exact Or.inr rfl | assumption) rfl rfl rfl dX7_isLetter_15 (by first | exact prT (by simp only [bI_eq0, Decidable.not_not, Int32.lt_iff_toInt_lt, Int32.le_iff_toInt_le, Int32.reduceToInt] at c_1 c_7 ⊢; omega) | exact prF (by simp only [bI_eq0, Decidable.not_not, Int32.lt_iff_toInt_lt, Int32.le_iff_toInt_le, Int32.reduceToInt] at c_1 c_7 ⊢; omega))
    · refine aw_iconst hX (1) dX7_isLetter_10 (by decide) ?_
      refine aw_goto hX 15 dX7_isLetter_11 (by decide) ?_
      exact aw_zret hX rfl (by first | exact Or.inl rfl | exact Or.inr rfl | assumption) rfl rfl rfl dX7_isLetter_15 (by first | exact prT (by simp only [bI_eq0, Decidable.not_not, Int32.lt_iff_toInt_lt, Int32.le_iff_toInt_le, Int32.reduceToInt] at c_1 c_7 ⊢; omega) | exact prF (by simp only [bI_eq0, Decidable.not_not, Int32.lt_iff_toInt_lt, Int32.le_iff_toInt_le, Int32.reduceToInt] at c_1 c_7 ⊢; omega))
theorem tX7_isLetterIn (l : Launch) (E : EV) (n : Nat) (h : HP) (d : Nat) {c : Nat} (hc : c < 26) : MX7_isLetter l E n h [.ref d, .int (nI c)] (PR (.int 1) h) := by
  have t := tX7_isLetter l E n h d (nI c)
  rw [bI_t ⟨nI_pos' (by omega), nI_lt hc (by decide)⟩] at t
  exact t
theorem tX7_isLetterOut (l : Launch) (E : EV) (n : Nat) (h : HP) (d : Nat) : MX7_isLetter l E n h [.ref d, .int (nI 26)] (PR (.int 0) h) := by
  have t := tX7_isLetter l E n h d (nI 26)
  rw [bI_f (by decide)] at t
  exact t
theorem tX7_hasMessage (l : Launch) (E : EV) (n : Nat) (H : HScript h d co wd cr ln K) (m : Int32) : MX7_hasMessage l E n h [.ref d, .int m] (PR (.int (bI (0 ≤ m ∧ m < nI K ∧ m < 8))) h) := by
  obtain ⟨e0, e1, e2, e3, e4⟩ := H
  refine AM.intro mf_X7_hasMessage (by simp [Value.category]) (Nat.le_of_ble_eq_true rfl) (fun X hl hE hnm hX => ?_)
  subst hl
  subst hE
  show AW X _ _ 0 0 0 [some (.ref d), some (.int m)] []
  refine aw_iload_n hX dX7_hasMessage_0 rfl ?_
  refine aw_if_lt hX 22 dX7_hasMessage_1 (by decide) (fun c_1 => ?_) (fun c_1 => ?_)
  · refine aw_iconst hX (0) dX7_hasMessage_22 (by decide) ?_
    exact aw_zret hX rfl (by first | exact Or.inl rfl | exact Or.inr rfl | assumption) rfl rfl rfl dX7_hasMessage_23 (by first | exact prT (by simp only [bI_eq0, Decidable.not_not, Int32.lt_iff_toInt_lt, Int32.le_iff_toInt_le, Int32.reduceToInt] at c_1 ⊢; omega) | exact prF (by simp only [bI_eq0, Decidable.not_not, Int32.lt_iff_toInt_lt, Int32.le_iff_toInt_le, Int32.reduceToInt] at c_1 ⊢; omega))
  · refine aw_iload_n hX dX7_hasMessage_4 rfl ?_
    refine aw_aload_n hX dX7_hasMessage_5 rfl ?_
    refine gt_X7_24 hX dX7_hasMessage_6 (by assumption) (by exact rfl) ?_
    refine aw_icmp_ge hX 22 dX7_hasMessage_9 (by decide) (fun c_9 => ?_) (fun c_9 => ?_)
    · refine aw_iconst hX (0) dX7_hasMessage_22 (by decide) ?_
      exact aw_zret hX rfl (by first | exact Or.inl rfl | exact Or.inr rfl | assumption) rfl rfl rfl dX7_hasMessage_23 (by first | exact prT (by simp only [bI_eq0, Decidable.not_not, Int32.lt_iff_toInt_lt, Int32.le_iff_toInt_le, Int32.reduceToInt] at c_1 c_9 ⊢; omega) | exact prF (by simp only [bI_eq0, Decidable.not_not, Int32.lt_iff_toInt_lt, Int32.le_iff_toInt_le, Int32.reduceToInt] at c_1 c_9 ⊢; omega))
    · refine aw_iload_n hX dX7_hasMessage_12 rfl ?_
      refine aw_bipush hX (8) dX7_hasMessage_13 (by decide) ?_
      refine aw_icmp_ge hX 22 dX7_hasMessage_15 (by decide) (fun c_15 => ?_) (fun c_15 => ?_)
      · refine aw_iconst hX (0) dX7_hasMessage_22 (by decide) ?_
        exact aw_zret hX rfl (by first | exact Or.inl rfl | exact Or.inr rfl | assumption) rfl rfl rfl dX7_hasMessage_23 (by first | exact prT (by simp only [bI_eq0, Decidable.not_not, Int32.lt_iff_toInt_lt, Int32.le_iff_toInt_le, Int32.reduceToInt] at c_1 c_9 c_15 ⊢; omega) | exact prF (by simp only [bI_eq0, Decidable.not_not, Int32.lt_iff_toInt_lt, Int32.le_iff_toInt_le, Int32.reduceToInt] at c_1 c_9 c_15 ⊢; omega))
      · refine aw_iconst hX (1) dX7_hasMessage_18 (by decide) ?_
        refine aw_goto hX 23 dX7_hasMessage_19 (by decide) ?_
        exact aw_zret hX rfl (by first | exact Or.inl rfl | exact Or.inr rfl | assumption) rfl rfl rfl dX7_hasMessage_23 (by first | exact prT (by simp only [bI_eq0, Decidable.not_not, Int32.lt_iff_toInt_lt, Int32.le_iff_toInt_le, Int32.reduceToInt] at c_1 c_9 c_15 ⊢; omega) | exact prF (by simp only [bI_eq0, Decidable.not_not, Int32.lt_iff_toInt_lt, Int32.le_iff_toInt_le, Int32.reduceToInt] at c_1 c_9 c_15 ⊢; omega))
theorem tX7_hasMessageIn (l : Launch) (E : EV) (n : Nat) (H : HScript h d co wd cr ln K) {m : Nat} (hm : m < K) (hK : K ≤ 8) : MX7_hasMessage l E n h [.ref d, .int (nI m)] (PR (.int 1) h) := by
  have t := tX7_hasMessage l E n H (nI m)
  rw [bI_t ⟨nI_pos' (by omega), nI_lt hm (by omega), nI_lt (a := m) (b := 8) (by omega) (by decide)⟩] at t
  exact t
theorem tX7_lengthOf (l : Launch) (E : EV) (n : Nat) (H : HScript h d co wd cr ln K) {m : Nat} (hm : m < K) (hK : K ≤ 8) : MX7_lengthOf l E n h [.ref d, .int (nI m)] (PR (.int (nI (ln m))) h) := by
  have e := H
  obtain ⟨e0, e1, e2, e3, e4⟩ := H
  refine AM.intro mf_X7_lengthOf (by simp [Value.category]) (Nat.le_of_ble_eq_true rfl) (fun X hl hE hnm hX => ?_)
  subst hl
  subst hE
  show AW X _ _ 0 0 0 [some (.ref d), some (.int (nI m))] []
  refine aw_aload_n hX dX7_lengthOf_0 rfl ?_
  refine aw_iload_n hX dX7_lengthOf_1 rfl ?_
  refine aw_callVp hX RX7 rfl (tX7_hasMessageIn _ _ _ e hm hK) rfl mf_X7_hasMessage mi_X7_hasMessage ms_X7_hasMessage kl_X7_42 (by assumption) rfl rfl (by decide) (Nat.le_of_ble_eq_true rfl) dX7_lengthOf_2 (by decide) ?_
  refine aw_if_eq hX 17 dX7_lengthOf_5 (by decide) (fun c_5 => ?_) (fun c_5 => ?_)
  · exact absurd c_5 (by decide)
  · refine aw_aload_n hX dX7_lengthOf_8 rfl ?_
    refine gt_X7_21 hX dX7_lengthOf_9 (by assumption) (by exact rfl) ?_
    refine aw_iload_n hX dX7_lengthOf_12 rfl ?_
    refine aw_ialdN hX (m) (by assumption) rfl (by omega) (by first | decide | assumption) dX7_lengthOf_13 ?_
    refine aw_goto hX 18 dX7_lengthOf_14 (by decide) ?_
    exact aw_iret hX rfl rfl rfl rfl dX7_lengthOf_18 (by exact ⟨rfl, rfl⟩)
theorem idx12 (m i : Nat) : nI m * 12 + nI i = nI (m * 12 + i) := by
  rw [show (12 : Int32) = nI 12 from rfl, pk_mul, nI_add]
theorem idx5 (m i : Nat) : nI m * 5 + nI i = nI (m * 5 + i) := by
  rw [show (5 : Int32) = nI 5 from rfl, pk_mul, nI_add]
theorem tX7_characterOf (l : Launch) (E : EV) (n : Nat) (H : HScript h d co wd cr ln K) {m i : Nat} (hm : m < K) (hK : K ≤ 8) (hi : i < 12) : MX7_characterOf l E n h [.ref d, .int (nI m), .int (nI i)] (PR (.int (nI (cr (m * 12 + i)))) h) := by
  have e := H
  obtain ⟨e0, e1, e2, e3, e4⟩ := H
  refine AM.intro mf_X7_characterOf (by simp [Value.category]) (Nat.le_of_ble_eq_true rfl) (fun X hl hE hnm hX => ?_)
  subst hl
  subst hE
  show AW X _ _ 0 0 0 [some (.ref d), some (.int (nI m)), some (.int (nI i)), none] []
  refine aw_aload_n hX dX7_characterOf_0 rfl ?_
  refine aw_iload_n hX dX7_characterOf_1 rfl ?_
  refine aw_callVp hX RX7 rfl (tX7_hasMessageIn _ _ _ e hm hK) rfl mf_X7_hasMessage mi_X7_hasMessage ms_X7_hasMessage kl_X7_42 (by assumption) rfl rfl (by decide) (Nat.le_of_ble_eq_true rfl) dX7_characterOf_2 (by decide) ?_
  refine aw_if_eq hX 22 dX7_characterOf_5 (by decide) (fun c_5 => ?_) (fun c_5 => ?_)
  · exact absurd c_5 (by decide)
  · refine aw_iload_n hX dX7_characterOf_8 rfl ?_
    refine aw_if_lt hX 22 dX7_characterOf_9 (by decide) (fun c_9 => ?_) (fun c_9 => ?_)
    · exact absurd c_9 (nI_pos (by omega))
    · refine aw_iload_n hX dX7_characterOf_12 rfl ?_
      refine aw_bipush hX (12) dX7_characterOf_13 (by decide) ?_
      refine aw_icmp_ge hX 22 dX7_characterOf_15 (by decide) (fun c_15 => ?_) (fun c_15 => ?_)
      · exact absurd c_15 (nI_ge hi (by decide))
      · refine aw_iconst hX (1) dX7_characterOf_18 (by decide) ?_
        refine aw_goto hX 23 dX7_characterOf_19 (by decide) ?_
        refine aw_istore_n hX dX7_characterOf_23 (Nat.le_of_ble_eq_true rfl) ?_
        refine aw_iload_n hX dX7_characterOf_24 rfl ?_
        refine aw_if_eq hX 42 dX7_characterOf_25 (by decide) (fun c_25 => ?_) (fun c_25 => ?_)
        · exact absurd c_25 (by decide)
        · refine aw_aload_n hX dX7_characterOf_28 rfl ?_
          refine gt_X7_18 hX dX7_characterOf_29 (by assumption) (by exact rfl) ?_
          refine aw_iload_n hX dX7_characterOf_32 rfl ?_
          refine aw_bipush hX (12) dX7_characterOf_33 (by decide) ?_
          refine aw_imul hX dX7_characterOf_35 ?_
          refine aw_iload_n hX dX7_characterOf_36 rfl ?_
          refine aw_iadd hX dX7_characterOf_37 ?_
          refine aw_ialdN hX (m * 12 + i) (by assumption) (idx12 m i) (by omega) (by first | decide | assumption) dX7_characterOf_38 ?_
          refine aw_goto hX 44 dX7_characterOf_39 (by decide) ?_
          exact aw_iret hX rfl rfl rfl rfl dX7_characterOf_44 (by exact ⟨rfl, rfl⟩)
theorem tX7_widthOf (l : Launch) (E : EV) (n : Nat) (H : HScript h d co wd cr ln K) {c : Nat} (hc : c ≤ 26) : MX7_widthOf l E n h [.ref d, .int (nI c)] (PR (.int (nI (wF wd c))) h) := by
  obtain ⟨e0, e1, e2, e3, e4⟩ := H
  by_cases hc2 : c = 26
  · subst hc2
    refine AM.intro mf_X7_widthOf (by simp [Value.category]) (Nat.le_of_ble_eq_true rfl) (fun X hl hE hnm hX => ?_)
    subst hl
    subst hE
    show AW X _ _ 0 0 0 [some (.ref d), some (.int (nI 26))] []
    refine aw_iload_n hX dX7_widthOf_0 rfl ?_
    refine aw_bipush hX (26) dX7_widthOf_1 (by decide) ?_
    refine aw_icmp_ne hX 8 dX7_widthOf_3 (by decide) (fun c_3 => ?_) (fun c_3 => ?_)
    · exact absurd rfl c_3
    · refine aw_iconst hX (2) dX7_widthOf_6 (by decide) ?_
      exact aw_iret hX rfl rfl rfl rfl dX7_widthOf_7 (by exact ⟨rfl, rfl⟩)
  · skip
    refine AM.intro mf_X7_widthOf (by simp [Value.category]) (Nat.le_of_ble_eq_true rfl) (fun X hl hE hnm hX => ?_)
    subst hl
    subst hE
    show AW X _ _ 0 0 0 [some (.ref d), some (.int (nI c))] []
    refine aw_iload_n hX dX7_widthOf_0 rfl ?_
    refine aw_bipush hX (26) dX7_widthOf_1 (by decide) ?_
    refine aw_icmp_ne hX 8 dX7_widthOf_3 (by decide) (fun c_3 => ?_) (fun c_3 => ?_)
    · refine aw_aload_n hX dX7_widthOf_8 rfl ?_
      refine aw_iload_n hX dX7_widthOf_9 rfl ?_
      refine aw_callVp hX RX7 rfl (tX7_isLetterIn _ _ _ _ _ (by omega)) rfl mf_X7_isLetter mi_X7_isLetter ms_X7_isLetter kl_X7_32 (by assumption) rfl rfl (by decide) (Nat.le_of_ble_eq_true rfl) dX7_widthOf_10 (by decide) ?_
      refine aw_if_eq hX 25 dX7_widthOf_13 (by decide) (fun c_13 => ?_) (fun c_13 => ?_)
      · exact absurd c_13 (by decide)
      · refine aw_aload_n hX dX7_widthOf_16 rfl ?_
        refine gt_X7_15 hX dX7_widthOf_17 (by assumption) (by exact rfl) ?_
        refine aw_iload_n hX dX7_widthOf_20 rfl ?_
        refine aw_ialdN hX (c) (by assumption) rfl (by omega) (by first | decide | assumption) dX7_widthOf_21 ?_
        refine aw_goto hX 26 dX7_widthOf_22 (by decide) ?_
        exact aw_iret hX rfl rfl rfl rfl dX7_widthOf_26 (by exact ⟨by rw [wF, if_neg hc2], rfl⟩)
    · exact absurd ((nI_eq (a := c) (b := 26) (by omega) (by decide)).mp c_3) hc2
theorem tX7_columnOf (l : Launch) (E : EV) (n : Nat) (H : HScript h d co wd cr ln K) {c i : Nat} (hc : c ≤ 26) (hi : i < wF wd c) (h5 : wF wd c ≤ 5) : MX7_columnOf l E n h [.ref d, .int (nI c), .int (nI i)] (PR (.int (cF co c i)) h) := by
  obtain ⟨e0, e1, e2, e3, e4⟩ := H
  by_cases hc2 : c = 26
  · subst hc2
    refine AM.intro mf_X7_columnOf (by simp [Value.category]) (Nat.le_of_ble_eq_true rfl) (fun X hl hE hnm hX => ?_)
    subst hl
    subst hE
    show AW X _ _ 0 0 0 [some (.ref d), some (.int (nI 26)), some (.int (nI i)), none] []
    refine aw_aload_n hX dX7_columnOf_0 rfl ?_
    refine aw_iload_n hX dX7_columnOf_1 rfl ?_
    refine aw_callVp hX RX7 rfl (tX7_isLetterOut _ _ _ _ _) rfl mf_X7_isLetter mi_X7_isLetter ms_X7_isLetter kl_X7_32 (by assumption) rfl rfl (by decide) (Nat.le_of_ble_eq_true rfl) dX7_columnOf_2 (by decide) ?_
    refine aw_if_eq hX 31 dX7_columnOf_5 (by decide) (fun c_5 => ?_) (fun c_5 => ?_)
    · refine aw_iconst hX (0) dX7_columnOf_31 (by decide) ?_
      refine aw_istore_n hX dX7_columnOf_32 (Nat.le_of_ble_eq_true rfl) ?_
      refine aw_iload_n hX dX7_columnOf_33 rfl ?_
      refine aw_if_eq hX 50 dX7_columnOf_34 (by decide) (fun c_34 => ?_) (fun c_34 => ?_)
      · refine aw_iconst hX (0) dX7_columnOf_50 (by decide) ?_
        exact aw_iret hX rfl rfl rfl rfl dX7_columnOf_51 (by exact ⟨rfl, rfl⟩)
      · exact absurd rfl c_34
    · exact absurd rfl c_5
  · have hw : wF wd c = wd c := by rw [wF, if_neg hc2]
    rw [hw] at hi h5
    refine AM.intro mf_X7_columnOf (by simp [Value.category]) (Nat.le_of_ble_eq_true rfl) (fun X hl hE hnm hX => ?_)
    subst hl
    subst hE
    show AW X _ _ 0 0 0 [some (.ref d), some (.int (nI c)), some (.int (nI i)), none] []
    refine aw_aload_n hX dX7_columnOf_0 rfl ?_
    refine aw_iload_n hX dX7_columnOf_1 rfl ?_
    refine aw_callVp hX RX7 rfl (tX7_isLetterIn _ _ _ _ _ (by omega)) rfl mf_X7_isLetter mi_X7_isLetter ms_X7_isLetter kl_X7_32 (by assumption) rfl rfl (by decide) (Nat.le_of_ble_eq_true rfl) dX7_columnOf_2 (by decide) ?_
    refine aw_if_eq hX 31 dX7_columnOf_5 (by decide) (fun c_5 => ?_) (fun c_5 => ?_)
    · exact absurd c_5 (by decide)
    · refine aw_iload_n hX dX7_columnOf_8 rfl ?_
      refine aw_if_lt hX 31 dX7_columnOf_9 (by decide) (fun c_9 => ?_) (fun c_9 => ?_)
      · exact absurd c_9 (nI_pos (by omega))
      · refine aw_iload_n hX dX7_columnOf_12 rfl ?_
        refine aw_iconst hX (5) dX7_columnOf_13 (by decide) ?_
        refine aw_icmp_ge hX 31 dX7_columnOf_14 (by decide) (fun c_14 => ?_) (fun c_14 => ?_)
        · exact absurd c_14 (nI_ge (a := i) (b := 5) (by omega) (by decide))
        · refine aw_iload_n hX dX7_columnOf_17 rfl ?_
          refine aw_aload_n hX dX7_columnOf_18 rfl ?_
          refine gt_X7_15 hX dX7_columnOf_19 (by assumption) (by exact rfl) ?_
          refine aw_iload_n hX dX7_columnOf_22 rfl ?_
          refine aw_ialdN hX (c) (by assumption) rfl (by omega) (by first | decide | assumption) dX7_columnOf_23 ?_
          refine aw_icmp_ge hX 31 dX7_columnOf_24 (by decide) (fun c_24 => ?_) (fun c_24 => ?_)
          · exact absurd c_24 (nI_ge hi (by omega))
          · refine aw_iconst hX (1) dX7_columnOf_27 (by decide) ?_
            refine aw_goto hX 32 dX7_columnOf_28 (by decide) ?_
            refine aw_istore_n hX dX7_columnOf_32 (Nat.le_of_ble_eq_true rfl) ?_
            refine aw_iload_n hX dX7_columnOf_33 rfl ?_
            refine aw_if_eq hX 50 dX7_columnOf_34 (by decide) (fun c_34 => ?_) (fun c_34 => ?_)
            · exact absurd c_34 (by decide)
            · refine aw_aload_n hX dX7_columnOf_37 rfl ?_
              refine gt_X7_9 hX dX7_columnOf_38 (by assumption) (by exact rfl) ?_
              refine aw_iload_n hX dX7_columnOf_41 rfl ?_
              refine aw_iconst hX (5) dX7_columnOf_42 (by decide) ?_
              refine aw_imul hX dX7_columnOf_43 ?_
              refine aw_iload_n hX dX7_columnOf_44 rfl ?_
              refine aw_iadd hX dX7_columnOf_45 ?_
              refine aw_ialdN hX (c * 5 + i) (by assumption) (idx5 c i) (by omega) (by first | decide | assumption) dX7_columnOf_46 ?_
              refine aw_goto hX 51 dX7_columnOf_47 (by decide) ?_
              exact aw_iret hX rfl rfl rfl rfl dX7_columnOf_51 (by exact ⟨by rw [cF, if_neg hc2], rfl⟩)
theorem tX7_putColumn (l : Launch) (E : EV) (n : Nat) (H : HScript h d co wd cr ln K) {c i : Nat} (hc : c < 26) (hi : i < 5) (h5 : wd c ≤ 5) (b : Int32) : MX7_putColumn l E n h [.ref d, .int (nI c), .int (nI i), .int b] (fun v h' => v = none ∧ HScript h' d (upd co (c * 5 + i) b) (updN wd c (max (wd c) (i + 1))) cr ln K ∧ Sm d (d + 5) h h') := by
  have e := H
  obtain ⟨e0, e1, e2, e3, e4⟩ := H
  refine AM.intro mf_X7_putColumn (by simp [Value.category]) (Nat.le_of_ble_eq_true rfl) (fun X hl hE hnm hX => ?_)
  subst hl
  subst hE
  show AW X _ _ 0 0 0 [some (.ref d), some (.int (nI c)), some (.int (nI i)), some (.int b)] []
  refine aw_aload_n hX dX7_putColumn_0 rfl ?_
  refine aw_iload_n hX dX7_putColumn_1 rfl ?_
  refine aw_callVp hX RX7 rfl (tX7_isLetterIn _ _ _ _ _ (by omega)) rfl mf_X7_isLetter mi_X7_isLetter ms_X7_isLetter kl_X7_32 (by assumption) rfl rfl (by decide) (Nat.le_of_ble_eq_true rfl) dX7_putColumn_2 (by decide) ?_
  refine aw_if_eq hX 46 dX7_putColumn_5 (by decide) (fun c_5 => ?_) (fun c_5 => ?_)
  · exact absurd c_5 (by decide)
  · refine aw_iload_n hX dX7_putColumn_8 rfl ?_
    refine aw_if_lt hX 46 dX7_putColumn_9 (by decide) (fun c_9 => ?_) (fun c_9 => ?_)
    · exact absurd c_9 (nI_pos (by omega))
    · refine aw_iload_n hX dX7_putColumn_12 rfl ?_
      refine aw_iconst hX (5) dX7_putColumn_13 (by decide) ?_
      refine aw_icmp_ge hX 46 dX7_putColumn_14 (by decide) (fun c_14 => ?_) (fun c_14 => ?_)
      · exact absurd c_14 (nI_ge (a := i) (b := 5) (by omega) (by decide))
      · refine aw_aload_n hX dX7_putColumn_17 rfl ?_
        refine gt_X7_9 hX dX7_putColumn_18 (by assumption) (by exact rfl) ?_
        refine aw_iload_n hX dX7_putColumn_21 rfl ?_
        refine aw_iconst hX (5) dX7_putColumn_22 (by decide) ?_
        refine aw_imul hX dX7_putColumn_23 ?_
        refine aw_iload_n hX dX7_putColumn_24 rfl ?_
        refine aw_iadd hX dX7_putColumn_25 ?_
        refine aw_iload_n hX dX7_putColumn_26 rfl ?_
        refine aw_iastN hX (c * 5 + i) (by assumption) (idx5 c i) (by omega) (by first | decide | assumption) dX7_putColumn_27 ?_
        have e := e.a1 (upd co (c * 5 + i) b)
        obtain ⟨e0, e1, e2, e3, e4⟩ := id e
        refine aw_aload_n hX dX7_putColumn_28 rfl ?_
        refine gt_X7_15 hX dX7_putColumn_29 (by assumption) (by exact rfl) ?_
        refine aw_iload_n hX dX7_putColumn_32 rfl ?_
        refine aw_aload_n hX dX7_putColumn_33 rfl ?_
        refine gt_X7_15 hX dX7_putColumn_34 (by assumption) (by exact rfl) ?_
        refine aw_iload_n hX dX7_putColumn_37 rfl ?_
        refine aw_ialdN hX (c) (by assumption) rfl (by omega) (by first | decide | assumption) dX7_putColumn_38 ?_
        refine aw_iload_n hX dX7_putColumn_39 rfl ?_
        refine aw_iconst hX (1) dX7_putColumn_40 (by decide) ?_
        refine aw_iadd hX dX7_putColumn_41 ?_
        rw [nI_1]
        refine aw_callSp hX RX7 rfl (tJ9_max _ _ _ _ (nI (wd c)) (nI (i + 1))) rfl mf_J9_max_7cf53 mt_J9_max_7cf53 kl_X7_36 rfl (by decide) (Nat.le_of_ble_eq_true rfl) dX7_putColumn_42 (by decide) ?_
        have hm : (if nI (wd c) < nI (i + 1) then nI (i + 1) else nI (wd c)) = nI (max (wd c) (i + 1)) := by by_cases q : wd c < i + 1; (rw [if_pos (nI_lt q (by omega)), Nat.max_eq_right (by omega)]); (rw [if_neg (nI_nlt (by omega) (by omega)), Nat.max_eq_left (by omega)])
        rw [hm]
        refine aw_iastN hX (c) (by assumption) rfl (by omega) (by first | decide | assumption) dX7_putColumn_45 ?_
        rw [upd_nF]
        have e := e.a2 (updN wd c (max (wd c) (i + 1)))
        exact aw_vret hX rfl rfl rfl rfl dX7_putColumn_46 (by exact ⟨rfl, e, by repeat first | exact Sm.rf | refine Sm.set ?_ (by omega) (by omega)⟩)
theorem tX7_startMessage (l : Launch) (E : EV) (n : Nat) (H : HScript h d co wd cr ln K) (hK : K < 8) : MX7_startMessage l E n h [.ref d] (fun v h' => v = none ∧ HScript h' d co wd cr (updN ln K 0) (K + 1) ∧ Sm d (d + 5) h h') := by
  have e := H
  obtain ⟨e0, e1, e2, e3, e4⟩ := H
  refine AM.intro mf_X7_startMessage (by simp [Value.category]) (Nat.le_of_ble_eq_true rfl) (fun X hl hE hnm hX => ?_)
  subst hl
  subst hE
  show AW X _ _ 0 0 0 [some (.ref d)] []
  refine aw_aload_n hX dX7_startMessage_0 rfl ?_
  refine gt_X7_24 hX dX7_startMessage_1 (by assumption) (by exact rfl) ?_
  refine aw_if_lt hX 36 dX7_startMessage_4 (by decide) (fun c_4 => ?_) (fun c_4 => ?_)
  · exact absurd c_4 (nI_pos (by omega))
  · refine aw_aload_n hX dX7_startMessage_7 rfl ?_
    refine gt_X7_24 hX dX7_startMessage_8 (by assumption) (by exact rfl) ?_
    refine aw_bipush hX (8) dX7_startMessage_11 (by decide) ?_
    refine aw_icmp_ge hX 36 dX7_startMessage_13 (by decide) (fun c_13 => ?_) (fun c_13 => ?_)
    · exact absurd c_13 (nI_ge (a := K) (b := 8) hK (by decide))
    · refine aw_aload_n hX dX7_startMessage_16 rfl ?_
      refine gt_X7_21 hX dX7_startMessage_17 (by assumption) (by exact rfl) ?_
      refine aw_aload_n hX dX7_startMessage_20 rfl ?_
      refine gt_X7_24 hX dX7_startMessage_21 (by assumption) (by exact rfl) ?_
      refine aw_iconst hX (0) dX7_startMessage_24 (by decide) ?_
      refine aw_iastN hX (K) (by assumption) rfl hK (by first | decide | assumption) dX7_startMessage_25 ?_
      rw [show (0 : Int32) = nI 0 from rfl, upd_nF]
      have e := e.a4 (updN ln K 0)
      obtain ⟨e0, e1, e2, e3, e4⟩ := id e
      refine aw_aload_n hX dX7_startMessage_26 rfl ?_
      refine aw_dup hX dX7_startMessage_27 rfl ?_
      refine gt_X7_24 hX dX7_startMessage_28 (by assumption) (by exact rfl) ?_
      refine aw_iconst hX (1) dX7_startMessage_31 (by decide) ?_
      refine aw_iadd hX dX7_startMessage_32 ?_
      rw [nI_1]
      refine pt_X7_24 hX dX7_startMessage_33 (by assumption) (Nat.le_of_ble_eq_true rfl) ?_
      dsimp only [List.set_cons_zero, List.set_cons_succ]
      have e := e.a0 (K + 1)
      exact aw_vret hX rfl rfl rfl rfl dX7_startMessage_36 (by exact ⟨rfl, e, by repeat first | exact Sm.rf | refine Sm.set ?_ (by omega) (by omega)⟩)
theorem tX7_addCharacter (l : Launch) (E : EV) (n : Nat) (H : HScript h d co wd cr ln (K + 1)) (hK : K < 8) (hl : ln K < 12) (c : Nat) : MX7_addCharacter l E n h [.ref d, .int (nI c)] (fun v h' => v = none ∧ HScript h' d co wd (updN cr (K * 12 + ln K) c) (updN ln K (ln K + 1)) (K + 1) ∧ Sm d (d + 5) h h') := by
  have e := H
  obtain ⟨e0, e1, e2, e3, e4⟩ := H
  refine AM.intro mf_X7_addCharacter (by simp [Value.category]) (Nat.le_of_ble_eq_true rfl) (fun X hl hE hnm hX => ?_)
  subst hl
  subst hE
  show AW X _ _ 0 0 0 [some (.ref d), some (.int (nI c)), none, none] []
  refine aw_aload_n hX dX7_addCharacter_0 rfl ?_
  refine gt_X7_24 hX dX7_addCharacter_1 (by assumption) (by exact rfl) ?_
  refine aw_iconst hX (1) dX7_addCharacter_4 (by decide) ?_
  refine aw_isub hX dX7_addCharacter_5 ?_
  rw [nI_pred]
  refine aw_istore_n hX dX7_addCharacter_6 (Nat.le_of_ble_eq_true rfl) ?_
  refine aw_aload_n hX dX7_addCharacter_7 rfl ?_
  refine aw_iload_n hX dX7_addCharacter_8 rfl ?_
  refine aw_callVp hX RX7 rfl (tX7_lengthOf _ _ _ e (Nat.lt_succ_self _) (by omega)) rfl mf_X7_lengthOf mi_X7_lengthOf ms_X7_lengthOf kl_X7_45 (by assumption) rfl rfl (by decide) (Nat.le_of_ble_eq_true rfl) dX7_addCharacter_9 (by decide) ?_
  refine aw_istore_n hX dX7_addCharacter_12 (Nat.le_of_ble_eq_true rfl) ?_
  refine aw_aload_n hX dX7_addCharacter_13 rfl ?_
  refine aw_iload_n hX dX7_addCharacter_14 rfl ?_
  refine aw_callVp hX RX7 rfl (tX7_hasMessageIn _ _ _ e (Nat.lt_succ_self _) (by omega)) rfl mf_X7_hasMessage mi_X7_hasMessage ms_X7_hasMessage kl_X7_42 (by assumption) rfl rfl (by decide) (Nat.le_of_ble_eq_true rfl) dX7_addCharacter_15 (by decide) ?_
  refine aw_if_eq hX 52 dX7_addCharacter_18 (by decide) (fun c_18 => ?_) (fun c_18 => ?_)
  · exact absurd c_18 (by decide)
  · refine aw_iload_n hX dX7_addCharacter_21 rfl ?_
    refine aw_if_lt hX 52 dX7_addCharacter_22 (by decide) (fun c_22 => ?_) (fun c_22 => ?_)
    · exact absurd c_22 (nI_pos (by omega))
    · refine aw_iload_n hX dX7_addCharacter_25 rfl ?_
      refine aw_bipush hX (12) dX7_addCharacter_26 (by decide) ?_
      refine aw_icmp_ge hX 52 dX7_addCharacter_28 (by decide) (fun c_28 => ?_) (fun c_28 => ?_)
      · exact absurd c_28 (nI_ge (a := ln K) (b := 12) hl (by decide))
      · refine aw_aload_n hX dX7_addCharacter_31 rfl ?_
        refine gt_X7_18 hX dX7_addCharacter_32 (by assumption) (by exact rfl) ?_
        refine aw_iload_n hX dX7_addCharacter_35 rfl ?_
        refine aw_bipush hX (12) dX7_addCharacter_36 (by decide) ?_
        refine aw_imul hX dX7_addCharacter_38 ?_
        refine aw_iload_n hX dX7_addCharacter_39 rfl ?_
        refine aw_iadd hX dX7_addCharacter_40 ?_
        refine aw_iload_n hX dX7_addCharacter_41 rfl ?_
        refine aw_iastN hX (K * 12 + ln K) (by assumption) (idx12 _ _) (by omega) (by first | decide | assumption) dX7_addCharacter_42 ?_
        rw [upd_nF]
        have e := e.a3 (updN cr (K * 12 + ln K) c)
        obtain ⟨e0, e1, e2, e3, e4⟩ := id e
        refine aw_aload_n hX dX7_addCharacter_43 rfl ?_
        refine gt_X7_21 hX dX7_addCharacter_44 (by assumption) (by exact rfl) ?_
        refine aw_iload_n hX dX7_addCharacter_47 rfl ?_
        refine aw_iload_n hX dX7_addCharacter_48 rfl ?_
        refine aw_iconst hX (1) dX7_addCharacter_49 (by decide) ?_
        refine aw_iadd hX dX7_addCharacter_50 ?_
        rw [nI_1]
        refine aw_iastN hX (K) (by assumption) rfl hK (by first | decide | assumption) dX7_addCharacter_51 ?_
        rw [upd_nF]
        have e := e.a4 (updN ln K (ln K + 1))
        exact aw_vret hX rfl rfl rfl rfl dX7_addCharacter_52 (by exact ⟨rfl, e, by repeat first | exact Sm.rf | refine Sm.set ?_ (by omega) (by omega)⟩)
end SCRIPT
