/-! Reader: the draft, the items, what is expected, the letter, the first digit -/
abbrev RV : Type := SV × Nat × Nat × Nat × Nat
def HRead (h : HP) (a : Nat) (R : RV) : Prop := h a = some (cO 6 [.ref (a + 1), .int (nI R.2.1), .int (nI R.2.2.1), .int (nI R.2.2.2.1), .int (nI R.2.2.2.2)]) ∧ HS h (a + 1) R.1
def RW (R : RV) : Prop := R.1.2.2.2.2 ≤ 8 ∧ (∀ c, c < 26 → R.1.2.1 c ≤ 5) ∧ R.2.2.2.1 < 26 ∧ R.2.2.2.2 ≤ 7 ∧ R.2.2.1 ≤ 4 ∧ (R.2.2.1 = 3 → R.1.2.1 R.2.2.2.1 < 5) ∧ (R.2.2.1 = 4 → 1 ≤ R.1.2.2.2.2 ∧ R.1.2.2.2.1 (R.1.2.2.2.2 - 1) ≤ 12)
def dgF (c : Nat) : Int := if 48 ≤ c ∧ c ≤ 57 then (c : Int) - 48 else if 97 ≤ c ∧ c ≤ 102 then (c : Int) - 87 else -1
def tkS (R : RV) (c : Nat) : Option RV :=
  if c = 62 ∧ R.1.2.2.2.2 < 8 then some ((R.1.1, R.1.2.1, R.1.2.2.1, updN R.1.2.2.2.1 R.1.2.2.2.2 0, R.1.2.2.2.2 + 1), R.2.1, 4, R.2.2.2.1, R.2.2.2.2)
  else if 97 ≤ c ∧ c ≤ 122 then some ((R.1.1, updN R.1.2.1 (c - 97) 0, R.1.2.2), R.2.1, 1, c - 97, R.2.2.2.2) else none
def tkE (R : RV) (c : Nat) : Option RV := if c = 61 then some (R.1, R.2.1, 2, R.2.2.2) else none
def tkA (R : RV) (c : Nat) : Option RV :=
  if c = 59 ∧ 0 < R.1.2.1 R.2.2.2.1 then some (R.1, R.2.1 + 1, 0, R.2.2.2)
  else if R.1.2.1 R.2.2.2.1 < 5 ∧ 0 ≤ dgF c ∧ dgF c ≤ 7 then some (R.1, R.2.1, 3, R.2.2.2.1, (dgF c).toNat) else none
def tkB (R : RV) (c : Nat) : Option RV :=
  if 0 ≤ dgF c then some ((upd R.1.1 (R.2.2.2.1 * 5 + R.1.2.1 R.2.2.2.1) (nI (R.2.2.2.2 * 16 + (dgF c).toNat)), updN R.1.2.1 R.2.2.2.1 (R.1.2.1 R.2.2.2.1 + 1), R.1.2.2), R.2.1, 2, R.2.2.2) else none
def tkC (R : RV) (c : Nat) : Option RV :=
  if c = 59 ∧ 0 < R.1.2.2.2.1 (R.1.2.2.2.2 - 1) then some (R.1, R.2.1 + 1, 0, R.2.2.2)
  else if R.1.2.2.2.1 (R.1.2.2.2.2 - 1) < 12 ∧ (c = 95 ∨ 97 ≤ c ∧ c ≤ 122) then
    some ((R.1.1, R.1.2.1, updN R.1.2.2.1 ((R.1.2.2.2.2 - 1) * 12 + R.1.2.2.2.1 (R.1.2.2.2.2 - 1)) (if c = 95 then 26 else c - 97), updN R.1.2.2.2.1 (R.1.2.2.2.2 - 1) (R.1.2.2.2.1 (R.1.2.2.2.2 - 1) + 1), R.1.2.2.2.2), R.2.1, 4, R.2.2.2) else none
/-- a character is taken or not -/
def tkF (R : RV) (c : Nat) : Option RV :=
  if c = 32 then (if R.2.2.1 = 3 then none else some R)
  else if R.2.2.1 = 0 then tkS R c else if R.2.2.1 = 1 then tkE R c else if R.2.2.1 = 2 then tkA R c else if R.2.2.1 = 3 then tkB R c else tkC R c
/-- a method's answer and its change, as a character's taking tells them -/
def TK (h : HP) (a : Nat) (R : RV) (o : Option RV) : Option Value → HP → Prop := fun v h' => Sm a (a + 6) h h' ∧ ((∃ R', o = some R' ∧ v = some (.int 1) ∧ HRead h' a R') ∨ (o = none ∧ v = some (.int 0) ∧ HRead h' a R))
theorem dgF_in (c : Nat) (hc : c < 256) : -1 ≤ dgF c ∧ dgF c ≤ 15 := by
  unfold dgF
  split
  · omega
  · split <;> omega
section READ
variable {h : HP} {a : Nat} {R : RV} {c : Nat}
theorem HRead.a0 (H : HRead h a R) (i x l f : Nat) : HRead (hset h a (cO 6 [.ref (a + 1), .int (nI i), .int (nI x), .int (nI l), .int (nI f)])) a (R.1, i, x, l, f) :=
  ⟨hset_eq _ _ _, HScript.off H.2 _ (by omega)⟩
theorem HRead.dr {h' : HP} (H : HRead h a R) {S : SV} (H' : HS h' (a + 1) S) (s : Sm (a + 1) (a + 1 + 5) h h') : HRead h' a (S, R.2) :=
  ⟨(s.at (by omega)).trans H.1, H'⟩
theorem HRead.sm {h' : HP} {lo hi : Nat} (H : HRead h a R) (s : Sm lo hi h h') (hq : hi ≤ a ∨ a + 6 ≤ lo) : HRead h' a R :=
  ⟨(s.at (by omega)).trans H.1, HScript.sm H.2 s (by omega)⟩
theorem tX6_isSmallLetter (l : Launch) (E : EV) (n : Nat) (h : HP) (hc : c < 256) : MX6_isSmallLetter l E n h [.int (nI c)] (PR (.int (bI (97 ≤ c ∧ c ≤ 122))) h) := by
  refine AM.intro mf_X6_isSmallLetter (by simp [Value.category]) (Nat.le_of_ble_eq_true rfl) (fun X hl hE hnm hX => ?_)
  subst hl
  subst hE
  show AW X _ _ 0 0 0 [some (.int (nI c))] []
  refine aw_iload_n hX dX6_isSmallLetter_0 rfl ?_
  refine aw_bipush hX (97) dX6_isSmallLetter_1 (by decide) ?_
  refine aw_icmp_lt hX 16 dX6_isSmallLetter_3 (by decide) (fun c_3 => ?_) (fun c_3 => ?_)
  · have n_3 : c < 97 := (nI_ltI (a := c) (b := 97) (by omega) (by omega)).mp c_3
    refine aw_iconst hX (0) dX6_isSmallLetter_16 (by decide) ?_
    exact aw_zret hX rfl (by first | exact Or.inl rfl | exact Or.inr rfl | assumption) rfl rfl rfl dX6_isSmallLetter_17 (by first | exact prT (by omega) | exact prF (by omega))
  · have n_3 : ¬ c < 97 := fun q => c_3 ((nI_ltI (a := c) (b := 97) (by omega) (by omega)).mpr q)
    refine aw_iload_n hX dX6_isSmallLetter_6 rfl ?_
    refine aw_bipush hX (122) dX6_isSmallLetter_7 (by decide) ?_
    refine aw_icmp_gt hX 16 dX6_isSmallLetter_9 (by decide) (fun c_9 => ?_) (fun c_9 => ?_)
    · have n_9 : 122 < c := (nI_ltI (a := 122) (b := c) (by omega) (by omega)).mp c_9
      refine aw_iconst hX (0) dX6_isSmallLetter_16 (by decide) ?_
      exact aw_zret hX rfl (by first | exact Or.inl rfl | exact Or.inr rfl | assumption) rfl rfl rfl dX6_isSmallLetter_17 (by first | exact prT (by omega) | exact prF (by omega))
    · have n_9 : ¬ 122 < c := fun q => c_9 ((nI_ltI (a := 122) (b := c) (by omega) (by omega)).mpr q)
      refine aw_iconst hX (1) dX6_isSmallLetter_12 (by decide) ?_
      refine aw_goto hX 17 dX6_isSmallLetter_13 (by decide) ?_
      exact aw_zret hX rfl (by first | exact Or.inl rfl | exact Or.inr rfl | assumption) rfl rfl rfl dX6_isSmallLetter_17 (by first | exact prT (by omega) | exact prF (by omega))
theorem tX6_digitOf (l : Launch) (E : EV) (n : Nat) (h : HP) (hc : c < 256) : MX6_digitOf l E n h [.int (nI c)] (PR (.int (iI (dgF c))) h) := by
  refine AM.intro mf_X6_digitOf (by simp [Value.category]) (Nat.le_of_ble_eq_true rfl) (fun X hl hE hnm hX => ?_)
  subst hl
  subst hE
  show AW X _ _ 0 0 0 [some (.int (nI c))] []
  refine aw_iload_n hX dX6_digitOf_0 rfl ?_
  refine aw_bipush hX (48) dX6_digitOf_1 (by decide) ?_
  refine aw_icmp_lt hX 17 dX6_digitOf_3 (by decide) (fun c_3 => ?_) (fun c_3 => ?_)
  · have n_3 : c < 48 := (nI_ltI (a := c) (b := 48) (by omega) (by omega)).mp c_3
    refine aw_iload_n hX dX6_digitOf_17 rfl ?_
    refine aw_bipush hX (97) dX6_digitOf_18 (by decide) ?_
    refine aw_icmp_lt hX 39 dX6_digitOf_20 (by decide) (fun c_20 => ?_) (fun c_20 => ?_)
    · have n_20 : c < 97 := (nI_ltI (a := c) (b := 97) (by omega) (by omega)).mp c_20
      refine aw_iconst hX (-1) dX6_digitOf_39 (by decide) ?_
      refine AW.top (y := iI (dgF c)) (by rw [dgF, if_neg (by omega), if_neg (by omega)]; rfl) ?_
      exact aw_iret hX rfl rfl rfl rfl dX6_digitOf_40 (by exact ⟨rfl, rfl⟩)
    · have n_20 : ¬ c < 97 := fun q => c_20 ((nI_ltI (a := c) (b := 97) (by omega) (by omega)).mpr q)
      refine aw_iload_n hX dX6_digitOf_23 rfl ?_
      refine aw_bipush hX (102) dX6_digitOf_24 (by decide) ?_
      refine aw_icmp_gt hX 39 dX6_digitOf_26 (by decide) (fun c_26 => ?_) (fun c_26 => ?_)
      · have n_26 : 102 < c := (nI_ltI (a := 102) (b := c) (by omega) (by omega)).mp c_26
        refine aw_iconst hX (-1) dX6_digitOf_39 (by decide) ?_
        refine AW.top (y := iI (dgF c)) (by rw [dgF, if_neg (by omega), if_neg (by omega)]; rfl) ?_
        exact aw_iret hX rfl rfl rfl rfl dX6_digitOf_40 (by exact ⟨rfl, rfl⟩)
      · have n_26 : ¬ 102 < c := fun q => c_26 ((nI_ltI (a := 102) (b := c) (by omega) (by omega)).mpr q)
        refine aw_iload_n hX dX6_digitOf_29 rfl ?_
        refine aw_bipush hX (97) dX6_digitOf_30 (by decide) ?_
        refine aw_isub hX dX6_digitOf_32 ?_
        refine aw_bipush hX (10) dX6_digitOf_33 (by decide) ?_
        refine aw_iadd hX dX6_digitOf_35 ?_
        refine AW.top (y := iI (dgF c)) (by rw [dgF, if_neg (by omega), if_pos (by omega), iI_n]; show iI c - iI 97 + iI 10 = _; rw [iI_sub, iI_add]; congr 1; omega) ?_
        refine aw_goto hX 40 dX6_digitOf_36 (by decide) ?_
        exact aw_iret hX rfl rfl rfl rfl dX6_digitOf_40 (by exact ⟨rfl, rfl⟩)
  · have n_3 : ¬ c < 48 := fun q => c_3 ((nI_ltI (a := c) (b := 48) (by omega) (by omega)).mpr q)
    refine aw_iload_n hX dX6_digitOf_6 rfl ?_
    refine aw_bipush hX (57) dX6_digitOf_7 (by decide) ?_
    refine aw_icmp_gt hX 17 dX6_digitOf_9 (by decide) (fun c_9 => ?_) (fun c_9 => ?_)
    · have n_9 : 57 < c := (nI_ltI (a := 57) (b := c) (by omega) (by omega)).mp c_9
      refine aw_iload_n hX dX6_digitOf_17 rfl ?_
      refine aw_bipush hX (97) dX6_digitOf_18 (by decide) ?_
      refine aw_icmp_lt hX 39 dX6_digitOf_20 (by decide) (fun c_20 => ?_) (fun c_20 => ?_)
      · have n_20 : c < 97 := (nI_ltI (a := c) (b := 97) (by omega) (by omega)).mp c_20
        refine aw_iconst hX (-1) dX6_digitOf_39 (by decide) ?_
        refine AW.top (y := iI (dgF c)) (by rw [dgF, if_neg (by omega), if_neg (by omega)]; rfl) ?_
        exact aw_iret hX rfl rfl rfl rfl dX6_digitOf_40 (by exact ⟨rfl, rfl⟩)
      · have n_20 : ¬ c < 97 := fun q => c_20 ((nI_ltI (a := c) (b := 97) (by omega) (by omega)).mpr q)
        refine aw_iload_n hX dX6_digitOf_23 rfl ?_
        refine aw_bipush hX (102) dX6_digitOf_24 (by decide) ?_
        refine aw_icmp_gt hX 39 dX6_digitOf_26 (by decide) (fun c_26 => ?_) (fun c_26 => ?_)
        · have n_26 : 102 < c := (nI_ltI (a := 102) (b := c) (by omega) (by omega)).mp c_26
          refine aw_iconst hX (-1) dX6_digitOf_39 (by decide) ?_
          refine AW.top (y := iI (dgF c)) (by rw [dgF, if_neg (by omega), if_neg (by omega)]; rfl) ?_
          exact aw_iret hX rfl rfl rfl rfl dX6_digitOf_40 (by exact ⟨rfl, rfl⟩)
        · have n_26 : ¬ 102 < c := fun q => c_26 ((nI_ltI (a := 102) (b := c) (by omega) (by omega)).mpr q)
          refine aw_iload_n hX dX6_digitOf_29 rfl ?_
          refine aw_bipush hX (97) dX6_digitOf_30 (by decide) ?_
          refine aw_isub hX dX6_digitOf_32 ?_
          refine aw_bipush hX (10) dX6_digitOf_33 (by decide) ?_
          refine aw_iadd hX dX6_digitOf_35 ?_
          refine AW.top (y := iI (dgF c)) (by rw [dgF, if_neg (by omega), if_pos (by omega), iI_n]; show iI c - iI 97 + iI 10 = _; rw [iI_sub, iI_add]; congr 1; omega) ?_
          refine aw_goto hX 40 dX6_digitOf_36 (by decide) ?_
          exact aw_iret hX rfl rfl rfl rfl dX6_digitOf_40 (by exact ⟨rfl, rfl⟩)
    · have n_9 : ¬ 57 < c := fun q => c_9 ((nI_ltI (a := 57) (b := c) (by omega) (by omega)).mpr q)
      refine aw_iload_n hX dX6_digitOf_12 rfl ?_
      refine aw_bipush hX (48) dX6_digitOf_13 (by decide) ?_
      refine aw_isub hX dX6_digitOf_15 ?_
      refine AW.top (y := iI (dgF c)) (by rw [dgF, if_pos (by omega), iI_n]; exact iI_sub _ 48) ?_
      exact aw_iret hX rfl rfl rfl rfl dX6_digitOf_16 (by exact ⟨rfl, rfl⟩)
theorem tX6_endItem (l : Launch) (E : EV) (n : Nat) (H : HRead h a R) : MX6_endItem l E n h [.ref a] (fun r h' => r = none ∧ HRead h' a (R.1, R.2.1 + 1, 0, R.2.2.2) ∧ Sm a (a + 6) h h') := by
  have e := H
  obtain ⟨e0, e1⟩ := H
  refine AM.intro mf_X6_endItem (by simp [Value.category]) (Nat.le_of_ble_eq_true rfl) (fun X hl hE hnm hX => ?_)
  subst hl
  subst hE
  show AW X _ _ 0 0 0 [some (.ref a)] []
  refine aw_aload_n hX dX6_endItem_0 rfl ?_
  refine aw_dup hX dX6_endItem_1 rfl ?_
  refine gt_X6_18 hX dX6_endItem_2 (by assumption) (by exact rfl) ?_
  refine aw_iconst hX (1) dX6_endItem_5 (by decide) ?_
  refine aw_iadd hX dX6_endItem_6 ?_
  rw [nI_1]
  refine pt_X6_18 hX dX6_endItem_7 (by assumption) (Nat.le_of_ble_eq_true rfl) ?_
  dsimp only [List.set_cons_zero, List.set_cons_succ]
  have e := e.a0 (R.2.1 + 1) R.2.2.1 R.2.2.2.1 R.2.2.2.2
  have e0 := e.1
  refine aw_aload_n hX dX6_endItem_10 rfl ?_
  refine aw_iconst hX (0) dX6_endItem_11 (by decide) ?_
  refine pt_X6_22 hX dX6_endItem_12 (by assumption) (Nat.le_of_ble_eq_true rfl) ?_
  dsimp only [List.set_cons_zero, List.set_cons_succ]
  have e := e.a0 (R.2.1 + 1) 0 R.2.2.2.1 R.2.2.2.2
  exact aw_vret hX rfl rfl rfl rfl dX6_endItem_15 (by exact ⟨rfl, e, by repeat first | exact Sm.rf | refine Sm.set ?_ (by omega) (by omega)⟩)
theorem tX6_takesStart (l : Launch) (E : EV) (n : Nat) (H : HRead h a R) (hR : RW R) (hc : c < 256) : MX6_takesStart l E n h [.ref a, .int (nI c)] (TK h a R (tkS R c)) := by
  have e := H
  obtain ⟨e0, e1⟩ := H
  have s0 := e1.1
  have hK := hR.1
  refine AM.intro mf_X6_takesStart (by simp [Value.category]) (Nat.le_of_ble_eq_true rfl) (fun X hl hE hnm hX => ?_)
  subst hl
  subst hE
  show AW X _ _ 0 0 0 [some (.ref a), some (.int (nI c))] []
  refine aw_iload_n hX dX6_takesStart_0 rfl ?_
  refine aw_bipush hX (62) dX6_takesStart_1 (by decide) ?_
  refine aw_icmp_ne hX 32 dX6_takesStart_3 (by decide) (fun c_3 => ?_) (fun c_3 => ?_)
  · have n_3 : ¬ c = 62 := fun q => c_3 ((nI_eq (a := c) (b := 62) (by omega) (by omega)).mpr q)
    refine aw_iload_n hX dX6_takesStart_32 rfl ?_
    refine aw_callSp hX RX6 rfl (tX6_isSmallLetter _ _ _ _ hc) rfl mf_X6_isSmallLetter mt_X6_isSmallLetter kl_X6_60 rfl (by decide) (Nat.le_of_ble_eq_true rfl) dX6_takesStart_33 (by decide) ?_
    refine aw_if_ne hX 41 dX6_takesStart_36 (by decide) (fun c_36 => ?_) (fun c_36 => ?_)
    · have n_36 := Decidable.not_not.mp (fun q => c_36 (bI_eq0.mpr q))
      have hx : nI c - 97 = nI (c - 97) := pk_sub (b := 97) (by omega)
      refine aw_aload_n hX dX6_takesStart_41 rfl ?_
      refine aw_iload_n hX dX6_takesStart_42 rfl ?_
      refine aw_bipush hX (97) dX6_takesStart_43 (by decide) ?_
      refine aw_isub hX dX6_takesStart_45 ?_
      rw [hx]
      refine pt_X6_25 hX dX6_takesStart_46 (by assumption) (Nat.le_of_ble_eq_true rfl) ?_
      dsimp only [List.set_cons_zero, List.set_cons_succ]
      have e := e.a0 R.2.1 R.2.2.1 (c - 97) R.2.2.2.2
      have e0 := e.1
      have s0 := e.2.1
      refine aw_aload_n hX dX6_takesStart_49 rfl ?_
      refine gt_X6_12 hX dX6_takesStart_50 (by assumption) (by exact rfl) ?_
      refine aw_aload_n hX dX6_takesStart_53 rfl ?_
      refine gt_X6_25 hX dX6_takesStart_54 (by assumption) (by exact rfl) ?_
      refine aw_callV0 hX RX6 rfl (tX7_clearLetter _ _ _ e.2 (c := c - 97) (by omega)) rfl mf_X7_clearLetter mi_X7_clearLetter ms_X7_clearLetter kl_X6_63 (by assumption) rfl rfl (by decide) (Nat.le_of_ble_eq_true rfl) dX6_takesStart_57 (by decide) (fun v_57 h_57 p_57 => ?_)
      obtain ⟨rfl, q, sm⟩ := p_57
      have e := e.dr (S := (R.1.1, updN R.1.2.1 (c - 97) 0, R.1.2.2)) q sm
      have sm0 := Sm.tr (lo := a) (hi := a + 6) (Sm.rf.set (Nat.le_refl _) (by omega)) sm (by omega) (by omega)
      have e0 := e.1
      refine aw_aload_n hX dX6_takesStart_60 rfl ?_
      refine aw_iconst hX (1) dX6_takesStart_61 (by decide) ?_
      refine pt_X6_22 hX dX6_takesStart_62 (by assumption) (Nat.le_of_ble_eq_true rfl) ?_
      dsimp only [List.set_cons_zero, List.set_cons_succ]
      have e := e.a0 R.2.1 1 (c - 97) R.2.2.2.2
      refine aw_iconst hX (1) dX6_takesStart_65 (by decide) ?_
      exact aw_zret hX rfl (by first | exact Or.inl rfl | exact Or.inr rfl | assumption) rfl rfl rfl dX6_takesStart_66 (by exact ⟨sm0.set (by omega) (by omega), Or.inl ⟨_, by rw [tkS, if_neg (by omega), if_pos (by omega)], rfl, e⟩⟩)
    · refine aw_iconst hX (0) dX6_takesStart_39 (by decide) ?_
      exact aw_zret hX rfl (by first | exact Or.inl rfl | exact Or.inr rfl | assumption) rfl rfl rfl dX6_takesStart_40 (by exact ⟨Sm.rf, Or.inr ⟨by rw [tkS, if_neg (by omega), if_neg (bI_eq0.mp c_36)], rfl, e⟩⟩)
  · have n_3 : c = 62 := (nI_eq (a := c) (b := 62) (by omega) (by omega)).mp c_3
    refine aw_aload_n hX dX6_takesStart_6 rfl ?_
    refine gt_X6_12 hX dX6_takesStart_7 (by assumption) (by exact rfl) ?_
    refine gt_X6_54 hX dX6_takesStart_10 (by assumption) (by exact rfl) ?_
    refine aw_bipush hX (8) dX6_takesStart_13 (by decide) ?_
    refine aw_icmp_ge hX 32 dX6_takesStart_15 (by decide) (fun c_15 => ?_) (fun c_15 => ?_)
    · have n_15 : 8 ≤ R.1.2.2.2.2 := (nI_leI (a := 8) (b := R.1.2.2.2.2) (by omega) (by omega)).mp c_15
      refine aw_iload_n hX dX6_takesStart_32 rfl ?_
      refine aw_callSp hX RX6 rfl (tX6_isSmallLetter _ _ _ _ hc) rfl mf_X6_isSmallLetter mt_X6_isSmallLetter kl_X6_60 rfl (by decide) (Nat.le_of_ble_eq_true rfl) dX6_takesStart_33 (by decide) ?_
      refine aw_if_ne hX 41 dX6_takesStart_36 (by decide) (fun c_36 => ?_) (fun c_36 => ?_)
      · have n_36 := Decidable.not_not.mp (fun q => c_36 (bI_eq0.mpr q))
        have hx : nI c - 97 = nI (c - 97) := pk_sub (b := 97) (by omega)
        refine aw_aload_n hX dX6_takesStart_41 rfl ?_
        refine aw_iload_n hX dX6_takesStart_42 rfl ?_
        refine aw_bipush hX (97) dX6_takesStart_43 (by decide) ?_
        refine aw_isub hX dX6_takesStart_45 ?_
        rw [hx]
        refine pt_X6_25 hX dX6_takesStart_46 (by assumption) (Nat.le_of_ble_eq_true rfl) ?_
        dsimp only [List.set_cons_zero, List.set_cons_succ]
        have e := e.a0 R.2.1 R.2.2.1 (c - 97) R.2.2.2.2
        have e0 := e.1
        have s0 := e.2.1
        refine aw_aload_n hX dX6_takesStart_49 rfl ?_
        refine gt_X6_12 hX dX6_takesStart_50 (by assumption) (by exact rfl) ?_
        refine aw_aload_n hX dX6_takesStart_53 rfl ?_
        refine gt_X6_25 hX dX6_takesStart_54 (by assumption) (by exact rfl) ?_
        refine aw_callV0 hX RX6 rfl (tX7_clearLetter _ _ _ e.2 (c := c - 97) (by omega)) rfl mf_X7_clearLetter mi_X7_clearLetter ms_X7_clearLetter kl_X6_63 (by assumption) rfl rfl (by decide) (Nat.le_of_ble_eq_true rfl) dX6_takesStart_57 (by decide) (fun v_57 h_57 p_57 => ?_)
        obtain ⟨rfl, q, sm⟩ := p_57
        have e := e.dr (S := (R.1.1, updN R.1.2.1 (c - 97) 0, R.1.2.2)) q sm
        have sm0 := Sm.tr (lo := a) (hi := a + 6) (Sm.rf.set (Nat.le_refl _) (by omega)) sm (by omega) (by omega)
        have e0 := e.1
        refine aw_aload_n hX dX6_takesStart_60 rfl ?_
        refine aw_iconst hX (1) dX6_takesStart_61 (by decide) ?_
        refine pt_X6_22 hX dX6_takesStart_62 (by assumption) (Nat.le_of_ble_eq_true rfl) ?_
        dsimp only [List.set_cons_zero, List.set_cons_succ]
        have e := e.a0 R.2.1 1 (c - 97) R.2.2.2.2
        refine aw_iconst hX (1) dX6_takesStart_65 (by decide) ?_
        exact aw_zret hX rfl (by first | exact Or.inl rfl | exact Or.inr rfl | assumption) rfl rfl rfl dX6_takesStart_66 (by exact ⟨sm0.set (by omega) (by omega), Or.inl ⟨_, by rw [tkS, if_neg (by omega), if_pos (by omega)], rfl, e⟩⟩)
      · refine aw_iconst hX (0) dX6_takesStart_39 (by decide) ?_
        exact aw_zret hX rfl (by first | exact Or.inl rfl | exact Or.inr rfl | assumption) rfl rfl rfl dX6_takesStart_40 (by exact ⟨Sm.rf, Or.inr ⟨by rw [tkS, if_neg (by omega), if_neg (bI_eq0.mp c_36)], rfl, e⟩⟩)
    · have n_15 : ¬ 8 ≤ R.1.2.2.2.2 := fun q => c_15 ((nI_leI (a := 8) (b := R.1.2.2.2.2) (by omega) (by omega)).mpr q)
      refine aw_aload_n hX dX6_takesStart_18 rfl ?_
      refine gt_X6_12 hX dX6_takesStart_19 (by assumption) (by exact rfl) ?_
      refine aw_callV0 hX RX6 rfl (tX7_startMessage _ _ _ e1 (by omega)) rfl mf_X7_startMessage mi_X7_startMessage ms_X7_startMessage kl_X6_57 (by assumption) rfl rfl (by decide) (Nat.le_of_ble_eq_true rfl) dX6_takesStart_22 (by decide) (fun v_22 h_22 p_22 => ?_)
      obtain ⟨rfl, q, sm⟩ := p_22
      have e := e.dr (S := (R.1.1, R.1.2.1, R.1.2.2.1, updN R.1.2.2.2.1 R.1.2.2.2.2 0, R.1.2.2.2.2 + 1)) q sm
      have sm0 := Sm.tr (lo := a) (hi := a + 6) Sm.rf sm (by omega) (by omega)
      have e0 := e.1
      refine aw_aload_n hX dX6_takesStart_25 rfl ?_
      refine aw_iconst hX (4) dX6_takesStart_26 (by decide) ?_
      refine pt_X6_22 hX dX6_takesStart_27 (by assumption) (Nat.le_of_ble_eq_true rfl) ?_
      dsimp only [List.set_cons_zero, List.set_cons_succ]
      have e := e.a0 R.2.1 4 R.2.2.2.1 R.2.2.2.2
      refine aw_iconst hX (1) dX6_takesStart_30 (by decide) ?_
      exact aw_zret hX rfl (by first | exact Or.inl rfl | exact Or.inr rfl | assumption) rfl rfl rfl dX6_takesStart_31 (by exact ⟨sm0.set (by omega) (by omega), Or.inl ⟨_, by rw [tkS, if_pos (by omega)], rfl, e⟩⟩)
theorem tX6_takesEqualsSign (l : Launch) (E : EV) (n : Nat) (H : HRead h a R) (hc : c < 256) : MX6_takesEqualsSign l E n h [.ref a, .int (nI c)] (TK h a R (tkE R c)) := by
  have e := H
  obtain ⟨e0, e1⟩ := H
  refine AM.intro mf_X6_takesEqualsSign (by simp [Value.category]) (Nat.le_of_ble_eq_true rfl) (fun X hl hE hnm hX => ?_)
  subst hl
  subst hE
  show AW X _ _ 0 0 0 [some (.ref a), some (.int (nI c))] []
  refine aw_iload_n hX dX6_takesEqualsSign_0 rfl ?_
  refine aw_bipush hX (61) dX6_takesEqualsSign_1 (by decide) ?_
  refine aw_icmp_eq hX 8 dX6_takesEqualsSign_3 (by decide) (fun c_3 => ?_) (fun c_3 => ?_)
  · have n_3 : c = 61 := (nI_eq (a := c) (b := 61) (by omega) (by omega)).mp c_3
    refine aw_aload_n hX dX6_takesEqualsSign_8 rfl ?_
    refine aw_iconst hX (2) dX6_takesEqualsSign_9 (by decide) ?_
    refine pt_X6_22 hX dX6_takesEqualsSign_10 (by assumption) (Nat.le_of_ble_eq_true rfl) ?_
    dsimp only [List.set_cons_zero, List.set_cons_succ]
    have e := e.a0 R.2.1 2 R.2.2.2.1 R.2.2.2.2
    refine aw_iconst hX (1) dX6_takesEqualsSign_13 (by decide) ?_
    exact aw_zret hX rfl (by first | exact Or.inl rfl | exact Or.inr rfl | assumption) rfl rfl rfl dX6_takesEqualsSign_14 (by exact ⟨Sm.rf.set (Nat.le_refl _) (by omega), Or.inl ⟨_, by rw [tkE, if_pos (by omega)], rfl, e⟩⟩)
  · have n_3 : ¬ c = 61 := fun q => c_3 ((nI_eq (a := c) (b := 61) (by omega) (by omega)).mpr q)
    refine aw_iconst hX (0) dX6_takesEqualsSign_6 (by decide) ?_
    exact aw_zret hX rfl (by first | exact Or.inl rfl | exact Or.inr rfl | assumption) rfl rfl rfl dX6_takesEqualsSign_7 (by exact ⟨Sm.rf, Or.inr ⟨by rw [tkE, if_neg (by omega)], rfl, e⟩⟩)
theorem tX6_takesFirstDigit (l : Launch) (E : EV) (n : Nat) (H : HRead h a R) (hR : RW R) (hc : c < 256) : MX6_takesFirstDigit l E n h [.ref a, .int (nI c)] (TK h a R (tkA R c)) := by
  have e := H
  obtain ⟨e0, e1⟩ := H
  have s0 := e1.1
  have hL := hR.2.2.1
  have hw := hR.2.1 _ hL
  have hd := dgF_in c hc
  have hwf : wF R.1.2.1 R.2.2.2.1 = R.1.2.1 R.2.2.2.1 := by rw [wF, if_neg (by omega)]
  have hd0 : iI (dgF c) < 0 ↔ dgF c < 0 := iI_lt (b := 0) (by omega) (by omega) (by decide) (by decide)
  have hd7 : iI (dgF c) ≤ 7 ↔ dgF c ≤ 7 := iI_le (b := 7) (by omega) (by omega) (by decide) (by decide)
  refine AM.intro mf_X6_takesFirstDigit (by simp [Value.category]) (Nat.le_of_ble_eq_true rfl) (fun X hl hE hnm hX => ?_)
  subst hl
  subst hE
  show AW X _ _ 0 0 0 [some (.ref a), some (.int (nI c)), none, none] []
  refine aw_aload_n hX dX6_takesFirstDigit_0 rfl ?_
  refine gt_X6_12 hX dX6_takesFirstDigit_1 (by assumption) (by exact rfl) ?_
  refine aw_aload_n hX dX6_takesFirstDigit_4 rfl ?_
  refine gt_X6_25 hX dX6_takesFirstDigit_5 (by assumption) (by exact rfl) ?_
  refine aw_callVp hX RX6 rfl (tX7_widthOf _ _ _ e1 (c := R.2.2.2.1) (by omega)) rfl mf_X7_widthOf mi_X7_widthOf ms_X7_widthOf kl_X6_67 (by assumption) rfl rfl (by decide) (Nat.le_of_ble_eq_true rfl) dX6_takesFirstDigit_8 (by decide) ?_
  rw [hwf]
  refine aw_istore_n hX dX6_takesFirstDigit_11 (Nat.le_of_ble_eq_true rfl) ?_
  refine aw_iload_n hX dX6_takesFirstDigit_12 rfl ?_
  refine aw_bipush hX (59) dX6_takesFirstDigit_13 (by decide) ?_
  refine aw_icmp_ne hX 28 dX6_takesFirstDigit_15 (by decide) (fun c_15 => ?_) (fun c_15 => ?_)
  · have n_15 : ¬ c = 59 := fun q => c_15 ((nI_eq (a := c) (b := 59) (by omega) (by omega)).mpr q)
    refine aw_iload_n hX dX6_takesFirstDigit_28 rfl ?_
    refine aw_callSp hX RX6 rfl (tX6_digitOf _ _ _ _ hc) rfl mf_X6_digitOf mt_X6_digitOf kl_X6_74 rfl (by decide) (Nat.le_of_ble_eq_true rfl) dX6_takesFirstDigit_29 (by decide) ?_
    refine aw_istore_n hX dX6_takesFirstDigit_32 (Nat.le_of_ble_eq_true rfl) ?_
    refine aw_iload_n hX dX6_takesFirstDigit_33 rfl ?_
    refine aw_iconst hX (5) dX6_takesFirstDigit_34 (by decide) ?_
    refine aw_icmp_ge hX 48 dX6_takesFirstDigit_35 (by decide) (fun c_35 => ?_) (fun c_35 => ?_)
    · have n_35 : 5 ≤ R.1.2.1 R.2.2.2.1 := (nI_leI (a := 5) (b := R.1.2.1 R.2.2.2.1) (by omega) (by omega)).mp c_35
      try have n_45 : ¬ dgF c ≤ 7 := fun q => c_45 (hd7.mpr q)
      refine aw_iconst hX (0) dX6_takesFirstDigit_48 (by decide) ?_
      exact aw_zret hX rfl (by first | exact Or.inl rfl | exact Or.inr rfl | assumption) rfl rfl rfl dX6_takesFirstDigit_49 (by exact ⟨Sm.rf, Or.inr ⟨by rw [tkA, if_neg (by omega), if_neg (by omega)], rfl, e⟩⟩)
    · have n_35 : ¬ 5 ≤ R.1.2.1 R.2.2.2.1 := fun q => c_35 ((nI_leI (a := 5) (b := R.1.2.1 R.2.2.2.1) (by omega) (by omega)).mpr q)
      refine aw_iload_n hX dX6_takesFirstDigit_38 rfl ?_
      refine aw_if_lt hX 48 dX6_takesFirstDigit_39 (by decide) (fun c_39 => ?_) (fun c_39 => ?_)
      · have n_39 := hd0.mp c_39
        refine aw_iconst hX (0) dX6_takesFirstDigit_48 (by decide) ?_
        exact aw_zret hX rfl (Or.inl rfl) rfl rfl rfl dX6_takesFirstDigit_49 ⟨Sm.rf, Or.inr ⟨by rw [tkA, if_neg (by omega), if_neg (by omega)], rfl, e⟩⟩
      · have n_39 : ¬ dgF c < 0 := fun q => c_39 (hd0.mpr q)
        refine aw_iload_n hX dX6_takesFirstDigit_42 rfl ?_
        refine aw_bipush hX (7) dX6_takesFirstDigit_43 (by decide) ?_
        refine aw_icmp_le hX 50 dX6_takesFirstDigit_45 (by decide) (fun c_45 => ?_) (fun c_45 => ?_)
        · have n_45 := hd7.mp c_45
          refine aw_aload_n hX dX6_takesFirstDigit_50 rfl ?_
          refine aw_iload_n hX dX6_takesFirstDigit_51 rfl ?_
          rw [iI_nn (Int.not_lt.mp n_39)]
          refine pt_X6_28 hX dX6_takesFirstDigit_52 (by assumption) (Nat.le_of_ble_eq_true rfl) ?_
          dsimp only [List.set_cons_zero, List.set_cons_succ]
          have e := e.a0 R.2.1 R.2.2.1 R.2.2.2.1 (dgF c).toNat
          have e0 := e.1
          refine aw_aload_n hX dX6_takesFirstDigit_55 rfl ?_
          refine aw_iconst hX (3) dX6_takesFirstDigit_56 (by decide) ?_
          refine pt_X6_22 hX dX6_takesFirstDigit_57 (by assumption) (Nat.le_of_ble_eq_true rfl) ?_
          dsimp only [List.set_cons_zero, List.set_cons_succ]
          have e := e.a0 R.2.1 3 R.2.2.2.1 (dgF c).toNat
          refine aw_iconst hX (1) dX6_takesFirstDigit_60 (by decide) ?_
          exact aw_zret hX rfl (by first | exact Or.inl rfl | exact Or.inr rfl | assumption) rfl rfl rfl dX6_takesFirstDigit_61 (by exact ⟨by repeat first | exact Sm.rf | refine Sm.set ?_ (by omega) (by omega), Or.inl ⟨_, by rw [tkA, if_neg (by omega), if_pos (by omega)], rfl, e⟩⟩)
        · try have n_45 : ¬ dgF c ≤ 7 := fun q => c_45 (hd7.mpr q)
          refine aw_iconst hX (0) dX6_takesFirstDigit_48 (by decide) ?_
          exact aw_zret hX rfl (by first | exact Or.inl rfl | exact Or.inr rfl | assumption) rfl rfl rfl dX6_takesFirstDigit_49 (by exact ⟨Sm.rf, Or.inr ⟨by rw [tkA, if_neg (by omega), if_neg (by omega)], rfl, e⟩⟩)
  · have n_15 : c = 59 := (nI_eq (a := c) (b := 59) (by omega) (by omega)).mp c_15
    refine aw_iload_n hX dX6_takesFirstDigit_18 rfl ?_
    refine aw_if_le hX 28 dX6_takesFirstDigit_19 (by decide) (fun c_19 => ?_) (fun c_19 => ?_)
    · have n_19 : R.1.2.1 R.2.2.2.1 ≤ 0 := (nI_leI (a := R.1.2.1 R.2.2.2.1) (b := 0) (by omega) (by omega)).mp c_19
      refine aw_iload_n hX dX6_takesFirstDigit_28 rfl ?_
      refine aw_callSp hX RX6 rfl (tX6_digitOf _ _ _ _ hc) rfl mf_X6_digitOf mt_X6_digitOf kl_X6_74 rfl (by decide) (Nat.le_of_ble_eq_true rfl) dX6_takesFirstDigit_29 (by decide) ?_
      refine aw_istore_n hX dX6_takesFirstDigit_32 (Nat.le_of_ble_eq_true rfl) ?_
      refine aw_iload_n hX dX6_takesFirstDigit_33 rfl ?_
      refine aw_iconst hX (5) dX6_takesFirstDigit_34 (by decide) ?_
      refine aw_icmp_ge hX 48 dX6_takesFirstDigit_35 (by decide) (fun c_35 => ?_) (fun c_35 => ?_)
      · have n_35 : 5 ≤ R.1.2.1 R.2.2.2.1 := (nI_leI (a := 5) (b := R.1.2.1 R.2.2.2.1) (by omega) (by omega)).mp c_35
        try have n_45 : ¬ dgF c ≤ 7 := fun q => c_45 (hd7.mpr q)
        refine aw_iconst hX (0) dX6_takesFirstDigit_48 (by decide) ?_
        exact aw_zret hX rfl (by first | exact Or.inl rfl | exact Or.inr rfl | assumption) rfl rfl rfl dX6_takesFirstDigit_49 (by exact ⟨Sm.rf, Or.inr ⟨by rw [tkA, if_neg (by omega), if_neg (by omega)], rfl, e⟩⟩)
      · have n_35 : ¬ 5 ≤ R.1.2.1 R.2.2.2.1 := fun q => c_35 ((nI_leI (a := 5) (b := R.1.2.1 R.2.2.2.1) (by omega) (by omega)).mpr q)
        refine aw_iload_n hX dX6_takesFirstDigit_38 rfl ?_
        refine aw_if_lt hX 48 dX6_takesFirstDigit_39 (by decide) (fun c_39 => ?_) (fun c_39 => ?_)
        · have n_39 := hd0.mp c_39
          refine aw_iconst hX (0) dX6_takesFirstDigit_48 (by decide) ?_
          exact aw_zret hX rfl (Or.inl rfl) rfl rfl rfl dX6_takesFirstDigit_49 ⟨Sm.rf, Or.inr ⟨by rw [tkA, if_neg (by omega), if_neg (by omega)], rfl, e⟩⟩
        · have n_39 : ¬ dgF c < 0 := fun q => c_39 (hd0.mpr q)
          refine aw_iload_n hX dX6_takesFirstDigit_42 rfl ?_
          refine aw_bipush hX (7) dX6_takesFirstDigit_43 (by decide) ?_
          refine aw_icmp_le hX 50 dX6_takesFirstDigit_45 (by decide) (fun c_45 => ?_) (fun c_45 => ?_)
          · have n_45 := hd7.mp c_45
            refine aw_aload_n hX dX6_takesFirstDigit_50 rfl ?_
            refine aw_iload_n hX dX6_takesFirstDigit_51 rfl ?_
            rw [iI_nn (Int.not_lt.mp n_39)]
            refine pt_X6_28 hX dX6_takesFirstDigit_52 (by assumption) (Nat.le_of_ble_eq_true rfl) ?_
            dsimp only [List.set_cons_zero, List.set_cons_succ]
            have e := e.a0 R.2.1 R.2.2.1 R.2.2.2.1 (dgF c).toNat
            have e0 := e.1
            refine aw_aload_n hX dX6_takesFirstDigit_55 rfl ?_
            refine aw_iconst hX (3) dX6_takesFirstDigit_56 (by decide) ?_
            refine pt_X6_22 hX dX6_takesFirstDigit_57 (by assumption) (Nat.le_of_ble_eq_true rfl) ?_
            dsimp only [List.set_cons_zero, List.set_cons_succ]
            have e := e.a0 R.2.1 3 R.2.2.2.1 (dgF c).toNat
            refine aw_iconst hX (1) dX6_takesFirstDigit_60 (by decide) ?_
            exact aw_zret hX rfl (by first | exact Or.inl rfl | exact Or.inr rfl | assumption) rfl rfl rfl dX6_takesFirstDigit_61 (by exact ⟨by repeat first | exact Sm.rf | refine Sm.set ?_ (by omega) (by omega), Or.inl ⟨_, by rw [tkA, if_neg (by omega), if_pos (by omega)], rfl, e⟩⟩)
          · try have n_45 : ¬ dgF c ≤ 7 := fun q => c_45 (hd7.mpr q)
            refine aw_iconst hX (0) dX6_takesFirstDigit_48 (by decide) ?_
            exact aw_zret hX rfl (by first | exact Or.inl rfl | exact Or.inr rfl | assumption) rfl rfl rfl dX6_takesFirstDigit_49 (by exact ⟨Sm.rf, Or.inr ⟨by rw [tkA, if_neg (by omega), if_neg (by omega)], rfl, e⟩⟩)
    · have n_19 : ¬ R.1.2.1 R.2.2.2.1 ≤ 0 := fun q => c_19 ((nI_leI (a := R.1.2.1 R.2.2.2.1) (b := 0) (by omega) (by omega)).mpr q)
      refine aw_aload_n hX dX6_takesFirstDigit_22 rfl ?_
      refine aw_callV0 hX RX6 rfl (tX6_endItem _ _ _ e) rfl mf_X6_endItem mi_X6_endItem ms_X6_endItem kl_X6_71 (by assumption) rfl rfl (by decide) (Nat.le_of_ble_eq_true rfl) dX6_takesFirstDigit_23 (by decide) (fun v_23 h_23 p_23 => ?_)
      obtain ⟨rfl, q, sm⟩ := p_23
      refine aw_iconst hX (1) dX6_takesFirstDigit_26 (by decide) ?_
      exact aw_zret hX rfl (by first | exact Or.inl rfl | exact Or.inr rfl | assumption) rfl rfl rfl dX6_takesFirstDigit_27 (by exact ⟨sm, Or.inl ⟨_, by rw [tkA, if_pos (by omega)], rfl, q⟩⟩)
theorem tX6_takesSecondDigit (l : Launch) (E : EV) (n : Nat) (H : HRead h a R) (hR : RW R) (hx : R.2.2.1 = 3) (hc : c < 256) : MX6_takesSecondDigit l E n h [.ref a, .int (nI c)] (TK h a R (tkB R c)) := by
  have e := H
  obtain ⟨e0, e1⟩ := H
  have s0 := e1.1
  have hL := hR.2.2.1
  have hw := hR.2.2.2.2.2.1 hx
  have hf := hR.2.2.2.1
  have hd := dgF_in c hc
  have hwf : wF R.1.2.1 R.2.2.2.1 = R.1.2.1 R.2.2.2.1 := by rw [wF, if_neg (by omega)]
  have hd0 : 0 ≤ iI (dgF c) ↔ 0 ≤ dgF c := iI_le (a := 0) (by decide) (by decide) (by omega) (by omega)
  refine AM.intro mf_X6_takesSecondDigit (by simp [Value.category]) (Nat.le_of_ble_eq_true rfl) (fun X hl hE hnm hX => ?_)
  subst hl
  subst hE
  show AW X _ _ 0 0 0 [some (.ref a), some (.int (nI c)), none] []
  refine aw_iload_n hX dX6_takesSecondDigit_0 rfl ?_
  refine aw_callSp hX RX6 rfl (tX6_digitOf _ _ _ _ hc) rfl mf_X6_digitOf mt_X6_digitOf kl_X6_74 rfl (by decide) (Nat.le_of_ble_eq_true rfl) dX6_takesSecondDigit_1 (by decide) ?_
  refine aw_istore_n hX dX6_takesSecondDigit_4 (Nat.le_of_ble_eq_true rfl) ?_
  refine aw_iload_n hX dX6_takesSecondDigit_5 rfl ?_
  refine aw_if_ge hX 11 dX6_takesSecondDigit_6 (by decide) (fun c_6 => ?_) (fun c_6 => ?_)
  · have n_6 := hd0.mp c_6
    refine aw_aload_n hX dX6_takesSecondDigit_11 rfl ?_
    refine gt_X6_12 hX dX6_takesSecondDigit_12 (by assumption) (by exact rfl) ?_
    refine aw_aload_n hX dX6_takesSecondDigit_15 rfl ?_
    refine gt_X6_25 hX dX6_takesSecondDigit_16 (by assumption) (by exact rfl) ?_
    refine aw_aload_n hX dX6_takesSecondDigit_19 rfl ?_
    refine gt_X6_12 hX dX6_takesSecondDigit_20 (by assumption) (by exact rfl) ?_
    refine aw_aload_n hX dX6_takesSecondDigit_23 rfl ?_
    refine gt_X6_25 hX dX6_takesSecondDigit_24 (by assumption) (by exact rfl) ?_
    refine aw_callVp hX RX6 rfl (tX7_widthOf _ _ _ e1 (c := R.2.2.2.1) (by omega)) rfl mf_X7_widthOf mi_X7_widthOf ms_X7_widthOf kl_X6_67 (by assumption) rfl rfl (by decide) (Nat.le_of_ble_eq_true rfl) dX6_takesSecondDigit_27 (by decide) ?_
    rw [hwf]
    refine aw_aload_n hX dX6_takesSecondDigit_30 rfl ?_
    refine gt_X6_28 hX dX6_takesSecondDigit_31 (by assumption) (by exact rfl) ?_
    refine aw_bipush hX (16) dX6_takesSecondDigit_34 (by decide) ?_
    refine aw_imul hX dX6_takesSecondDigit_36 ?_
    refine aw_iload_n hX dX6_takesSecondDigit_37 rfl ?_
    refine aw_iadd hX dX6_takesSecondDigit_38 ?_
    refine AW.top (y := nI (R.2.2.2.2 * 16 + (dgF c).toNat)) (by rw [iI_nn n_6, show (16 : Int32) = nI 16 from rfl, pk_mul, nI_add]) ?_
    refine aw_callV0 hX RX6 rfl (tX7_putColumn _ _ _ e1 hL hw (by omega) _) rfl mf_X7_putColumn mi_X7_putColumn ms_X7_putColumn kl_X6_77 (by assumption) rfl rfl (by decide) (Nat.le_of_ble_eq_true rfl) dX6_takesSecondDigit_39 (by decide) (fun v_39 h_39 p_39 => ?_)
    obtain ⟨rfl, q, sm⟩ := p_39
    rw [Nat.max_eq_right (by omega)] at q
    have e := e.dr (S := (upd R.1.1 (R.2.2.2.1 * 5 + R.1.2.1 R.2.2.2.1) (nI (R.2.2.2.2 * 16 + (dgF c).toNat)), updN R.1.2.1 R.2.2.2.1 (R.1.2.1 R.2.2.2.1 + 1), R.1.2.2)) q sm
    have sm0 := Sm.tr (lo := a) (hi := a + 6) Sm.rf sm (by omega) (by omega)
    have e0 := e.1
    refine aw_aload_n hX dX6_takesSecondDigit_42 rfl ?_
    refine aw_iconst hX (2) dX6_takesSecondDigit_43 (by decide) ?_
    refine pt_X6_22 hX dX6_takesSecondDigit_44 (by assumption) (Nat.le_of_ble_eq_true rfl) ?_
    dsimp only [List.set_cons_zero, List.set_cons_succ]
    have e := e.a0 R.2.1 2 R.2.2.2.1 R.2.2.2.2
    refine aw_iconst hX (1) dX6_takesSecondDigit_47 (by decide) ?_
    exact aw_zret hX rfl (by first | exact Or.inl rfl | exact Or.inr rfl | assumption) rfl rfl rfl dX6_takesSecondDigit_48 (by exact ⟨sm0.set (by omega) (by omega), Or.inl ⟨_, by rw [tkB, if_pos n_6], rfl, e⟩⟩)
  · have n_6 : ¬ 0 ≤ dgF c := fun q => c_6 (hd0.mpr q)
    refine aw_iconst hX (0) dX6_takesSecondDigit_9 (by decide) ?_
    exact aw_zret hX rfl (by first | exact Or.inl rfl | exact Or.inr rfl | assumption) rfl rfl rfl dX6_takesSecondDigit_10 (by exact ⟨Sm.rf, Or.inr ⟨by rw [tkB, if_neg n_6], rfl, e⟩⟩)
theorem tX6_takesCharacter (l : Launch) (E : EV) (n : Nat) (H : HRead h a R) (hR : RW R) (hx : R.2.2.1 = 4) (hc : c < 256) : MX6_takesCharacter l E n h [.ref a, .int (nI c)] (TK h a R (tkC R c)) := by
  have e := H
  obtain ⟨e0, e1⟩ := H
  have s0 := e1.1
  have hK := hR.1
  obtain ⟨hK1, hl⟩ := hR.2.2.2.2.2.2 hx
  obtain ⟨K, hKe⟩ : ∃ K, R.1.2.2.2.2 = K + 1 := ⟨R.1.2.2.2.2 - 1, by omega⟩
  have hK2 : R.1.2.2.2.2 - 1 = K := by omega
  rw [hK2] at hl
  refine AM.intro mf_X6_takesCharacter (by simp [Value.category]) (Nat.le_of_ble_eq_true rfl) (fun X hl hE hnm hX => ?_)
  subst hl
  subst hE
  show AW X _ _ 0 0 0 [some (.ref a), some (.int (nI c)), none] []
  refine aw_aload_n hX dX6_takesCharacter_0 rfl ?_
  refine gt_X6_12 hX dX6_takesCharacter_1 (by assumption) (by exact rfl) ?_
  refine aw_aload_n hX dX6_takesCharacter_4 rfl ?_
  refine gt_X6_12 hX dX6_takesCharacter_5 (by assumption) (by exact rfl) ?_
  refine gt_X6_54 hX dX6_takesCharacter_8 (by assumption) (by exact rfl) ?_
  refine aw_iconst hX (1) dX6_takesCharacter_11 (by decide) ?_
  refine aw_isub hX dX6_takesCharacter_12 ?_
  refine AW.top (y := nI K) (by rw [hKe, nI_pred]) ?_
  refine aw_callVp hX RX6 rfl (tX7_lengthOf _ _ _ e1 (m := K) (by omega) hK) rfl mf_X7_lengthOf mi_X7_lengthOf ms_X7_lengthOf kl_X6_81 (by assumption) rfl rfl (by decide) (Nat.le_of_ble_eq_true rfl) dX6_takesCharacter_13 (by decide) ?_
  refine aw_istore_n hX dX6_takesCharacter_16 (Nat.le_of_ble_eq_true rfl) ?_
  refine aw_iload_n hX dX6_takesCharacter_17 rfl ?_
  refine aw_bipush hX (59) dX6_takesCharacter_18 (by decide) ?_
  refine aw_icmp_ne hX 33 dX6_takesCharacter_20 (by decide) (fun c_20 => ?_) (fun c_20 => ?_)
  · have n_20 : ¬ c = 59 := fun q => c_20 ((nI_eq (a := c) (b := 59) (by omega) (by omega)).mpr q)
    refine aw_iload_n hX dX6_takesCharacter_33 rfl ?_
    refine aw_bipush hX (12) dX6_takesCharacter_34 (by decide) ?_
    refine aw_icmp_ge hX 52 dX6_takesCharacter_36 (by decide) (fun c_36 => ?_) (fun c_36 => ?_)
    · have n_36 : 12 ≤ R.1.2.2.2.1 K := (nI_leI (a := 12) (b := R.1.2.2.2.1 K) (by omega) (by omega)).mp c_36
      try have n_49 := bI_eq0.mp c_49
      refine aw_iconst hX (0) dX6_takesCharacter_52 (by decide) ?_
      exact aw_zret hX rfl (by first | exact Or.inl rfl | exact Or.inr rfl | assumption) rfl rfl rfl dX6_takesCharacter_53 (by exact ⟨Sm.rf, Or.inr ⟨by rw [tkC, hK2, if_neg (by omega), if_neg (by omega)], rfl, e⟩⟩)
    · have n_36 : ¬ 12 ≤ R.1.2.2.2.1 K := fun q => c_36 ((nI_leI (a := 12) (b := R.1.2.2.2.1 K) (by omega) (by omega)).mpr q)
      refine aw_iload_n hX dX6_takesCharacter_39 rfl ?_
      refine aw_bipush hX (95) dX6_takesCharacter_40 (by decide) ?_
      refine aw_icmp_eq hX 54 dX6_takesCharacter_42 (by decide) (fun c_42 => ?_) (fun c_42 => ?_)
      · have n_42 : c = 95 := (nI_eq (a := c) (b := 95) (by omega) (by omega)).mp c_42
        try have n_49 := Decidable.not_not.mp (fun q => c_49 (bI_eq0.mpr q))
        refine aw_aload_n hX dX6_takesCharacter_54 rfl ?_
        refine gt_X6_12 hX dX6_takesCharacter_55 (by assumption) (by exact rfl) ?_
        refine aw_iload_n hX dX6_takesCharacter_58 rfl ?_
        refine aw_bipush hX (95) dX6_takesCharacter_59 (by decide) ?_
        refine aw_icmp_ne hX 69 dX6_takesCharacter_61 (by decide) (fun c_61 => ?_) (fun c_61 => ?_)
        · have n_61 : ¬ c = 95 := fun q => c_61 ((nI_eq (a := c) (b := 95) (by omega) (by omega)).mpr q)
          refine aw_iload_n hX dX6_takesCharacter_69 rfl ?_
          refine aw_bipush hX (97) dX6_takesCharacter_70 (by decide) ?_
          refine aw_isub hX dX6_takesCharacter_72 ?_
          refine AW.top (y := nI (if c = 95 then 26 else c - 97)) (by rw [if_neg (by omega)]; exact pk_sub (b := 97) (by omega)) ?_
          have e1' : HScript h (a + 1) R.1.1 R.1.2.1 R.1.2.2.1 R.1.2.2.2.1 (K + 1) := by rw [← hKe]; exact e1
          refine aw_callV0 hX RX6 rfl (tX7_addCharacter _ _ _ e1' (by omega) (by omega) _) rfl mf_X7_addCharacter mi_X7_addCharacter ms_X7_addCharacter kl_X6_84 (by assumption) rfl rfl (by decide) (Nat.le_of_ble_eq_true rfl) dX6_takesCharacter_73 (by decide) (fun v_73 h_73 p_73 => ?_)
          obtain ⟨rfl, q, sm⟩ := p_73
          have e := e.dr (S := (R.1.1, R.1.2.1, updN R.1.2.2.1 (K * 12 + R.1.2.2.2.1 K) (if c = 95 then 26 else c - 97), updN R.1.2.2.2.1 K (R.1.2.2.2.1 K + 1), K + 1)) q sm
          have sm0 := Sm.tr (lo := a) (hi := a + 6) Sm.rf sm (by omega) (by omega)
          refine aw_iconst hX (1) dX6_takesCharacter_76 (by decide) ?_
          exact aw_zret hX rfl (by first | exact Or.inl rfl | exact Or.inr rfl | assumption) rfl rfl rfl dX6_takesCharacter_77 (by exact ⟨sm0, Or.inl ⟨_, by rw [tkC, hK2, if_neg (by omega), if_pos (by omega), hKe], rfl, by (have q4 := e; rw [show R.2 = (R.2.1, 4, R.2.2.2) by rw [← hx]] at q4; exact q4)⟩⟩)
        · have n_61 : c = 95 := (nI_eq (a := c) (b := 95) (by omega) (by omega)).mp c_61
          refine aw_bipush hX (26) dX6_takesCharacter_64 (by decide) ?_
          refine AW.top (y := nI (if c = 95 then 26 else c - 97)) (by rw [if_pos (by omega)]; rfl) ?_
          refine aw_goto hX 73 dX6_takesCharacter_66 (by decide) ?_
          have e1' : HScript h (a + 1) R.1.1 R.1.2.1 R.1.2.2.1 R.1.2.2.2.1 (K + 1) := by rw [← hKe]; exact e1
          refine aw_callV0 hX RX6 rfl (tX7_addCharacter _ _ _ e1' (by omega) (by omega) _) rfl mf_X7_addCharacter mi_X7_addCharacter ms_X7_addCharacter kl_X6_84 (by assumption) rfl rfl (by decide) (Nat.le_of_ble_eq_true rfl) dX6_takesCharacter_73 (by decide) (fun v_73 h_73 p_73 => ?_)
          obtain ⟨rfl, q, sm⟩ := p_73
          have e := e.dr (S := (R.1.1, R.1.2.1, updN R.1.2.2.1 (K * 12 + R.1.2.2.2.1 K) (if c = 95 then 26 else c - 97), updN R.1.2.2.2.1 K (R.1.2.2.2.1 K + 1), K + 1)) q sm
          have sm0 := Sm.tr (lo := a) (hi := a + 6) Sm.rf sm (by omega) (by omega)
          refine aw_iconst hX (1) dX6_takesCharacter_76 (by decide) ?_
          exact aw_zret hX rfl (by first | exact Or.inl rfl | exact Or.inr rfl | assumption) rfl rfl rfl dX6_takesCharacter_77 (by exact ⟨sm0, Or.inl ⟨_, by rw [tkC, hK2, if_neg (by omega), if_pos (by omega), hKe], rfl, by (have q4 := e; rw [show R.2 = (R.2.1, 4, R.2.2.2) by rw [← hx]] at q4; exact q4)⟩⟩)
      · have n_42 : ¬ c = 95 := fun q => c_42 ((nI_eq (a := c) (b := 95) (by omega) (by omega)).mpr q)
        refine aw_iload_n hX dX6_takesCharacter_45 rfl ?_
        refine aw_callSp hX RX6 rfl (tX6_isSmallLetter _ _ _ _ hc) rfl mf_X6_isSmallLetter mt_X6_isSmallLetter kl_X6_60 rfl (by decide) (Nat.le_of_ble_eq_true rfl) dX6_takesCharacter_46 (by decide) ?_
        refine aw_if_ne hX 54 dX6_takesCharacter_49 (by decide) (fun c_49 => ?_) (fun c_49 => ?_)
        · try have n_49 := Decidable.not_not.mp (fun q => c_49 (bI_eq0.mpr q))
          refine aw_aload_n hX dX6_takesCharacter_54 rfl ?_
          refine gt_X6_12 hX dX6_takesCharacter_55 (by assumption) (by exact rfl) ?_
          refine aw_iload_n hX dX6_takesCharacter_58 rfl ?_
          refine aw_bipush hX (95) dX6_takesCharacter_59 (by decide) ?_
          refine aw_icmp_ne hX 69 dX6_takesCharacter_61 (by decide) (fun c_61 => ?_) (fun c_61 => ?_)
          · have n_61 : ¬ c = 95 := fun q => c_61 ((nI_eq (a := c) (b := 95) (by omega) (by omega)).mpr q)
            refine aw_iload_n hX dX6_takesCharacter_69 rfl ?_
            refine aw_bipush hX (97) dX6_takesCharacter_70 (by decide) ?_
            refine aw_isub hX dX6_takesCharacter_72 ?_
            refine AW.top (y := nI (if c = 95 then 26 else c - 97)) (by rw [if_neg (by omega)]; exact pk_sub (b := 97) (by omega)) ?_
            have e1' : HScript h (a + 1) R.1.1 R.1.2.1 R.1.2.2.1 R.1.2.2.2.1 (K + 1) := by rw [← hKe]; exact e1
            refine aw_callV0 hX RX6 rfl (tX7_addCharacter _ _ _ e1' (by omega) (by omega) _) rfl mf_X7_addCharacter mi_X7_addCharacter ms_X7_addCharacter kl_X6_84 (by assumption) rfl rfl (by decide) (Nat.le_of_ble_eq_true rfl) dX6_takesCharacter_73 (by decide) (fun v_73 h_73 p_73 => ?_)
            obtain ⟨rfl, q, sm⟩ := p_73
            have e := e.dr (S := (R.1.1, R.1.2.1, updN R.1.2.2.1 (K * 12 + R.1.2.2.2.1 K) (if c = 95 then 26 else c - 97), updN R.1.2.2.2.1 K (R.1.2.2.2.1 K + 1), K + 1)) q sm
            have sm0 := Sm.tr (lo := a) (hi := a + 6) Sm.rf sm (by omega) (by omega)
            refine aw_iconst hX (1) dX6_takesCharacter_76 (by decide) ?_
            exact aw_zret hX rfl (by first | exact Or.inl rfl | exact Or.inr rfl | assumption) rfl rfl rfl dX6_takesCharacter_77 (by exact ⟨sm0, Or.inl ⟨_, by rw [tkC, hK2, if_neg (by omega), if_pos (by omega), hKe], rfl, by (have q4 := e; rw [show R.2 = (R.2.1, 4, R.2.2.2) by rw [← hx]] at q4; exact q4)⟩⟩)
          · have n_61 : c = 95 := (nI_eq (a := c) (b := 95) (by omega) (by omega)).mp c_61
            refine aw_bipush hX (26) dX6_takesCharacter_64 (by decide) ?_
            refine AW.top (y := nI (if c = 95 then 26 else c - 97)) (by rw [if_pos (by omega)]; rfl) ?_
            refine aw_goto hX 73 dX6_takesCharacter_66 (by decide) ?_
            have e1' : HScript h (a + 1) R.1.1 R.1.2.1 R.1.2.2.1 R.1.2.2.2.1 (K + 1) := by rw [← hKe]; exact e1
            refine aw_callV0 hX RX6 rfl (tX7_addCharacter _ _ _ e1' (by omega) (by omega) _) rfl mf_X7_addCharacter mi_X7_addCharacter ms_X7_addCharacter kl_X6_84 (by assumption) rfl rfl (by decide) (Nat.le_of_ble_eq_true rfl) dX6_takesCharacter_73 (by decide) (fun v_73 h_73 p_73 => ?_)
            obtain ⟨rfl, q, sm⟩ := p_73
            have e := e.dr (S := (R.1.1, R.1.2.1, updN R.1.2.2.1 (K * 12 + R.1.2.2.2.1 K) (if c = 95 then 26 else c - 97), updN R.1.2.2.2.1 K (R.1.2.2.2.1 K + 1), K + 1)) q sm
            have sm0 := Sm.tr (lo := a) (hi := a + 6) Sm.rf sm (by omega) (by omega)
            refine aw_iconst hX (1) dX6_takesCharacter_76 (by decide) ?_
            exact aw_zret hX rfl (by first | exact Or.inl rfl | exact Or.inr rfl | assumption) rfl rfl rfl dX6_takesCharacter_77 (by exact ⟨sm0, Or.inl ⟨_, by rw [tkC, hK2, if_neg (by omega), if_pos (by omega), hKe], rfl, by (have q4 := e; rw [show R.2 = (R.2.1, 4, R.2.2.2) by rw [← hx]] at q4; exact q4)⟩⟩)
        · try have n_49 := bI_eq0.mp c_49
          refine aw_iconst hX (0) dX6_takesCharacter_52 (by decide) ?_
          exact aw_zret hX rfl (by first | exact Or.inl rfl | exact Or.inr rfl | assumption) rfl rfl rfl dX6_takesCharacter_53 (by exact ⟨Sm.rf, Or.inr ⟨by rw [tkC, hK2, if_neg (by omega), if_neg (by omega)], rfl, e⟩⟩)
  · have n_20 : c = 59 := (nI_eq (a := c) (b := 59) (by omega) (by omega)).mp c_20
    refine aw_iload_n hX dX6_takesCharacter_23 rfl ?_
    refine aw_if_le hX 33 dX6_takesCharacter_24 (by decide) (fun c_24 => ?_) (fun c_24 => ?_)
    · have n_24 : R.1.2.2.2.1 K ≤ 0 := (nI_leI (a := R.1.2.2.2.1 K) (b := 0) (by omega) (by omega)).mp c_24
      refine aw_iload_n hX dX6_takesCharacter_33 rfl ?_
      refine aw_bipush hX (12) dX6_takesCharacter_34 (by decide) ?_
      refine aw_icmp_ge hX 52 dX6_takesCharacter_36 (by decide) (fun c_36 => ?_) (fun c_36 => ?_)
      · have n_36 : 12 ≤ R.1.2.2.2.1 K := (nI_leI (a := 12) (b := R.1.2.2.2.1 K) (by omega) (by omega)).mp c_36
        try have n_49 := bI_eq0.mp c_49
        refine aw_iconst hX (0) dX6_takesCharacter_52 (by decide) ?_
        exact aw_zret hX rfl (by first | exact Or.inl rfl | exact Or.inr rfl | assumption) rfl rfl rfl dX6_takesCharacter_53 (by exact ⟨Sm.rf, Or.inr ⟨by rw [tkC, hK2, if_neg (by omega), if_neg (by omega)], rfl, e⟩⟩)
      · have n_36 : ¬ 12 ≤ R.1.2.2.2.1 K := fun q => c_36 ((nI_leI (a := 12) (b := R.1.2.2.2.1 K) (by omega) (by omega)).mpr q)
        refine aw_iload_n hX dX6_takesCharacter_39 rfl ?_
        refine aw_bipush hX (95) dX6_takesCharacter_40 (by decide) ?_
        refine aw_icmp_eq hX 54 dX6_takesCharacter_42 (by decide) (fun c_42 => ?_) (fun c_42 => ?_)
        · have n_42 : c = 95 := (nI_eq (a := c) (b := 95) (by omega) (by omega)).mp c_42
          try have n_49 := Decidable.not_not.mp (fun q => c_49 (bI_eq0.mpr q))
          refine aw_aload_n hX dX6_takesCharacter_54 rfl ?_
          refine gt_X6_12 hX dX6_takesCharacter_55 (by assumption) (by exact rfl) ?_
          refine aw_iload_n hX dX6_takesCharacter_58 rfl ?_
          refine aw_bipush hX (95) dX6_takesCharacter_59 (by decide) ?_
          refine aw_icmp_ne hX 69 dX6_takesCharacter_61 (by decide) (fun c_61 => ?_) (fun c_61 => ?_)
          · have n_61 : ¬ c = 95 := fun q => c_61 ((nI_eq (a := c) (b := 95) (by omega) (by omega)).mpr q)
            refine aw_iload_n hX dX6_takesCharacter_69 rfl ?_
            refine aw_bipush hX (97) dX6_takesCharacter_70 (by decide) ?_
            refine aw_isub hX dX6_takesCharacter_72 ?_
            refine AW.top (y := nI (if c = 95 then 26 else c - 97)) (by rw [if_neg (by omega)]; exact pk_sub (b := 97) (by omega)) ?_
            have e1' : HScript h (a + 1) R.1.1 R.1.2.1 R.1.2.2.1 R.1.2.2.2.1 (K + 1) := by rw [← hKe]; exact e1
            refine aw_callV0 hX RX6 rfl (tX7_addCharacter _ _ _ e1' (by omega) (by omega) _) rfl mf_X7_addCharacter mi_X7_addCharacter ms_X7_addCharacter kl_X6_84 (by assumption) rfl rfl (by decide) (Nat.le_of_ble_eq_true rfl) dX6_takesCharacter_73 (by decide) (fun v_73 h_73 p_73 => ?_)
            obtain ⟨rfl, q, sm⟩ := p_73
            have e := e.dr (S := (R.1.1, R.1.2.1, updN R.1.2.2.1 (K * 12 + R.1.2.2.2.1 K) (if c = 95 then 26 else c - 97), updN R.1.2.2.2.1 K (R.1.2.2.2.1 K + 1), K + 1)) q sm
            have sm0 := Sm.tr (lo := a) (hi := a + 6) Sm.rf sm (by omega) (by omega)
            refine aw_iconst hX (1) dX6_takesCharacter_76 (by decide) ?_
            exact aw_zret hX rfl (by first | exact Or.inl rfl | exact Or.inr rfl | assumption) rfl rfl rfl dX6_takesCharacter_77 (by exact ⟨sm0, Or.inl ⟨_, by rw [tkC, hK2, if_neg (by omega), if_pos (by omega), hKe], rfl, by (have q4 := e; rw [show R.2 = (R.2.1, 4, R.2.2.2) by rw [← hx]] at q4; exact q4)⟩⟩)
          · have n_61 : c = 95 := (nI_eq (a := c) (b := 95) (by omega) (by omega)).mp c_61
            refine aw_bipush hX (26) dX6_takesCharacter_64 (by decide) ?_
            refine AW.top (y := nI (if c = 95 then 26 else c - 97)) (by rw [if_pos (by omega)]; rfl) ?_
            refine aw_goto hX 73 dX6_takesCharacter_66 (by decide) ?_
            have e1' : HScript h (a + 1) R.1.1 R.1.2.1 R.1.2.2.1 R.1.2.2.2.1 (K + 1) := by rw [← hKe]; exact e1
            refine aw_callV0 hX RX6 rfl (tX7_addCharacter _ _ _ e1' (by omega) (by omega) _) rfl mf_X7_addCharacter mi_X7_addCharacter ms_X7_addCharacter kl_X6_84 (by assumption) rfl rfl (by decide) (Nat.le_of_ble_eq_true rfl) dX6_takesCharacter_73 (by decide) (fun v_73 h_73 p_73 => ?_)
            obtain ⟨rfl, q, sm⟩ := p_73
            have e := e.dr (S := (R.1.1, R.1.2.1, updN R.1.2.2.1 (K * 12 + R.1.2.2.2.1 K) (if c = 95 then 26 else c - 97), updN R.1.2.2.2.1 K (R.1.2.2.2.1 K + 1), K + 1)) q sm
            have sm0 := Sm.tr (lo := a) (hi := a + 6) Sm.rf sm (by omega) (by omega)
            refine aw_iconst hX (1) dX6_takesCharacter_76 (by decide) ?_
            exact aw_zret hX rfl (by first | exact Or.inl rfl | exact Or.inr rfl | assumption) rfl rfl rfl dX6_takesCharacter_77 (by exact ⟨sm0, Or.inl ⟨_, by rw [tkC, hK2, if_neg (by omega), if_pos (by omega), hKe], rfl, by (have q4 := e; rw [show R.2 = (R.2.1, 4, R.2.2.2) by rw [← hx]] at q4; exact q4)⟩⟩)
        · have n_42 : ¬ c = 95 := fun q => c_42 ((nI_eq (a := c) (b := 95) (by omega) (by omega)).mpr q)
          refine aw_iload_n hX dX6_takesCharacter_45 rfl ?_
          refine aw_callSp hX RX6 rfl (tX6_isSmallLetter _ _ _ _ hc) rfl mf_X6_isSmallLetter mt_X6_isSmallLetter kl_X6_60 rfl (by decide) (Nat.le_of_ble_eq_true rfl) dX6_takesCharacter_46 (by decide) ?_
          refine aw_if_ne hX 54 dX6_takesCharacter_49 (by decide) (fun c_49 => ?_) (fun c_49 => ?_)
          · try have n_49 := Decidable.not_not.mp (fun q => c_49 (bI_eq0.mpr q))
            refine aw_aload_n hX dX6_takesCharacter_54 rfl ?_
            refine gt_X6_12 hX dX6_takesCharacter_55 (by assumption) (by exact rfl) ?_
            refine aw_iload_n hX dX6_takesCharacter_58 rfl ?_
            refine aw_bipush hX (95) dX6_takesCharacter_59 (by decide) ?_
            refine aw_icmp_ne hX 69 dX6_takesCharacter_61 (by decide) (fun c_61 => ?_) (fun c_61 => ?_)
            · have n_61 : ¬ c = 95 := fun q => c_61 ((nI_eq (a := c) (b := 95) (by omega) (by omega)).mpr q)
              refine aw_iload_n hX dX6_takesCharacter_69 rfl ?_
              refine aw_bipush hX (97) dX6_takesCharacter_70 (by decide) ?_
              refine aw_isub hX dX6_takesCharacter_72 ?_
              refine AW.top (y := nI (if c = 95 then 26 else c - 97)) (by rw [if_neg (by omega)]; exact pk_sub (b := 97) (by omega)) ?_
              have e1' : HScript h (a + 1) R.1.1 R.1.2.1 R.1.2.2.1 R.1.2.2.2.1 (K + 1) := by rw [← hKe]; exact e1
              refine aw_callV0 hX RX6 rfl (tX7_addCharacter _ _ _ e1' (by omega) (by omega) _) rfl mf_X7_addCharacter mi_X7_addCharacter ms_X7_addCharacter kl_X6_84 (by assumption) rfl rfl (by decide) (Nat.le_of_ble_eq_true rfl) dX6_takesCharacter_73 (by decide) (fun v_73 h_73 p_73 => ?_)
              obtain ⟨rfl, q, sm⟩ := p_73
              have e := e.dr (S := (R.1.1, R.1.2.1, updN R.1.2.2.1 (K * 12 + R.1.2.2.2.1 K) (if c = 95 then 26 else c - 97), updN R.1.2.2.2.1 K (R.1.2.2.2.1 K + 1), K + 1)) q sm
              have sm0 := Sm.tr (lo := a) (hi := a + 6) Sm.rf sm (by omega) (by omega)
              refine aw_iconst hX (1) dX6_takesCharacter_76 (by decide) ?_
              exact aw_zret hX rfl (by first | exact Or.inl rfl | exact Or.inr rfl | assumption) rfl rfl rfl dX6_takesCharacter_77 (by exact ⟨sm0, Or.inl ⟨_, by rw [tkC, hK2, if_neg (by omega), if_pos (by omega), hKe], rfl, by (have q4 := e; rw [show R.2 = (R.2.1, 4, R.2.2.2) by rw [← hx]] at q4; exact q4)⟩⟩)
            · have n_61 : c = 95 := (nI_eq (a := c) (b := 95) (by omega) (by omega)).mp c_61
              refine aw_bipush hX (26) dX6_takesCharacter_64 (by decide) ?_
              refine AW.top (y := nI (if c = 95 then 26 else c - 97)) (by rw [if_pos (by omega)]; rfl) ?_
              refine aw_goto hX 73 dX6_takesCharacter_66 (by decide) ?_
              have e1' : HScript h (a + 1) R.1.1 R.1.2.1 R.1.2.2.1 R.1.2.2.2.1 (K + 1) := by rw [← hKe]; exact e1
              refine aw_callV0 hX RX6 rfl (tX7_addCharacter _ _ _ e1' (by omega) (by omega) _) rfl mf_X7_addCharacter mi_X7_addCharacter ms_X7_addCharacter kl_X6_84 (by assumption) rfl rfl (by decide) (Nat.le_of_ble_eq_true rfl) dX6_takesCharacter_73 (by decide) (fun v_73 h_73 p_73 => ?_)
              obtain ⟨rfl, q, sm⟩ := p_73
              have e := e.dr (S := (R.1.1, R.1.2.1, updN R.1.2.2.1 (K * 12 + R.1.2.2.2.1 K) (if c = 95 then 26 else c - 97), updN R.1.2.2.2.1 K (R.1.2.2.2.1 K + 1), K + 1)) q sm
              have sm0 := Sm.tr (lo := a) (hi := a + 6) Sm.rf sm (by omega) (by omega)
              refine aw_iconst hX (1) dX6_takesCharacter_76 (by decide) ?_
              exact aw_zret hX rfl (by first | exact Or.inl rfl | exact Or.inr rfl | assumption) rfl rfl rfl dX6_takesCharacter_77 (by exact ⟨sm0, Or.inl ⟨_, by rw [tkC, hK2, if_neg (by omega), if_pos (by omega), hKe], rfl, by (have q4 := e; rw [show R.2 = (R.2.1, 4, R.2.2.2) by rw [← hx]] at q4; exact q4)⟩⟩)
          · try have n_49 := bI_eq0.mp c_49
            refine aw_iconst hX (0) dX6_takesCharacter_52 (by decide) ?_
            exact aw_zret hX rfl (by first | exact Or.inl rfl | exact Or.inr rfl | assumption) rfl rfl rfl dX6_takesCharacter_53 (by exact ⟨Sm.rf, Or.inr ⟨by rw [tkC, hK2, if_neg (by omega), if_neg (by omega)], rfl, e⟩⟩)
    · have n_24 : ¬ R.1.2.2.2.1 K ≤ 0 := fun q => c_24 ((nI_leI (a := R.1.2.2.2.1 K) (b := 0) (by omega) (by omega)).mpr q)
      refine aw_aload_n hX dX6_takesCharacter_27 rfl ?_
      refine aw_callV0 hX RX6 rfl (tX6_endItem _ _ _ e) rfl mf_X6_endItem mi_X6_endItem ms_X6_endItem kl_X6_71 (by assumption) rfl rfl (by decide) (Nat.le_of_ble_eq_true rfl) dX6_takesCharacter_28 (by decide) (fun v_28 h_28 p_28 => ?_)
      obtain ⟨rfl, q, sm⟩ := p_28
      refine aw_iconst hX (1) dX6_takesCharacter_31 (by decide) ?_
      exact aw_zret hX rfl (by first | exact Or.inl rfl | exact Or.inr rfl | assumption) rfl rfl rfl dX6_takesCharacter_32 (by exact ⟨sm, Or.inl ⟨_, by rw [tkC, hK2, if_pos (by omega)], rfl, q⟩⟩)
theorem tX6_takes (l : Launch) (E : EV) (n : Nat) (H : HRead h a R) (hR : RW R) (hc : c < 256) : MX6_takes l E n h [.ref a, .int (nI c)] (TK h a R (tkF R c)) := by
  have e := H
  obtain ⟨e0, e1⟩ := H
  have hx4 := hR.2.2.2.2.1
  by_cases h32 : c = 32
  · have ht : tkF R c = if R.2.2.1 = 3 then none else some R := by rw [tkF, if_pos h32]
    rw [ht]
    refine AM.intro mf_X6_takes (by simp [Value.category]) (Nat.le_of_ble_eq_true rfl) (fun X hl hE hnm hX => ?_)
    subst hl
    subst hE
    show AW X _ _ 0 0 0 [some (.ref a), some (.int (nI c))] []
    refine aw_iload_n hX dX6_takes_0 rfl ?_
    refine aw_bipush hX (32) dX6_takes_1 (by decide) ?_
    refine aw_icmp_ne hX 20 dX6_takes_3 (by decide) (fun c_3 => ?_) (fun c_3 => ?_)
    · have n_3 : ¬ c = 32 := fun q => c_3 ((nI_eq (a := c) (b := 32) (by omega) (by omega)).mpr q)
      exact absurd h32 n_3
    · have n_3 : c = 32 := (nI_eq (a := c) (b := 32) (by omega) (by omega)).mp c_3
      refine aw_aload_n hX dX6_takes_6 rfl ?_
      refine gt_X6_22 hX dX6_takes_7 (by assumption) (by exact rfl) ?_
      refine aw_iconst hX (3) dX6_takes_10 (by decide) ?_
      refine aw_icmp_eq hX 18 dX6_takes_11 (by decide) (fun c_11 => ?_) (fun c_11 => ?_)
      · have n_11 : R.2.2.1 = 3 := (nI_eq (a := R.2.2.1) (b := 3) (by omega) (by omega)).mp c_11
        refine aw_iconst hX (0) dX6_takes_18 (by decide) ?_
        exact aw_zret hX rfl (by first | exact Or.inl rfl | exact Or.inr rfl | assumption) rfl rfl rfl dX6_takes_19 (by first | exact ⟨Sm.rf, Or.inl ⟨R, by rw [if_neg n_11], rfl, e⟩⟩ | exact ⟨Sm.rf, Or.inr ⟨by rw [if_pos n_11], rfl, e⟩⟩)
      · have n_11 : ¬ R.2.2.1 = 3 := fun q => c_11 ((nI_eq (a := R.2.2.1) (b := 3) (by omega) (by omega)).mpr q)
        refine aw_iconst hX (1) dX6_takes_14 (by decide) ?_
        refine aw_goto hX 19 dX6_takes_15 (by decide) ?_
        exact aw_zret hX rfl (by first | exact Or.inl rfl | exact Or.inr rfl | assumption) rfl rfl rfl dX6_takes_19 (by first | exact ⟨Sm.rf, Or.inl ⟨R, by rw [if_neg n_11], rfl, e⟩⟩ | exact ⟨Sm.rf, Or.inr ⟨by rw [if_pos n_11], rfl, e⟩⟩)
  rcases (show R.2.2.1 = 0 ∨ R.2.2.1 = 1 ∨ R.2.2.1 = 2 ∨ R.2.2.1 = 3 ∨ R.2.2.1 = 4 by omega) with hx | hx | hx | hx | hx
  · have ht : tkF R c = tkS R c := by
      rw [tkF, if_neg h32]
      simp [hx]
    rw [hx] at e0
    refine AM.intro mf_X6_takes (by simp [Value.category]) (Nat.le_of_ble_eq_true rfl) (fun X hl hE hnm hX => ?_)
    subst hl
    subst hE
    show AW X _ _ 0 0 0 [some (.ref a), some (.int (nI c))] []
    refine aw_iload_n hX dX6_takes_0 rfl ?_
    refine aw_bipush hX (32) dX6_takes_1 (by decide) ?_
    refine aw_icmp_ne hX 20 dX6_takes_3 (by decide) (fun c_3 => ?_) (fun c_3 => ?_)
    · have n_3 : ¬ c = 32 := fun q => c_3 ((nI_eq (a := c) (b := 32) (by omega) (by omega)).mpr q)
      refine aw_aload_n hX dX6_takes_20 rfl ?_
      refine gt_X6_22 hX dX6_takes_21 (by assumption) (by exact rfl) ?_
      refine aw_tabIn hX 56 dX6_takes_24 (by decide) (by decide) rfl (by decide) ?_
      refine aw_aload_n hX dX6_takes_56 rfl ?_
      refine aw_iload_n hX dX6_takes_57 rfl ?_
      refine aw_callV0 hX RX6 rfl (tX6_takesStart _ _ _ e hR hc) rfl mf_X6_takesStart mi_X6_takesStart ms_X6_takesStart kl_X6_39 (by assumption) rfl rfl (by decide) (Nat.le_of_ble_eq_true rfl) dX6_takes_58 (by decide) (fun v_58 h_58 p_58 => ?_)
      obtain ⟨sm, q⟩ := p_58
      rw [← ht] at q
      rcases q with ⟨R', q1, rfl, q3⟩ | ⟨q1, rfl, q3⟩
      · exact aw_zret hX rfl (Or.inr rfl) rfl rfl rfl dX6_takes_61 ⟨sm, Or.inl ⟨R', q1, rfl, q3⟩⟩
      · exact aw_zret hX rfl (Or.inl rfl) rfl rfl rfl dX6_takes_61 ⟨sm, Or.inr ⟨q1, rfl, q3⟩⟩
    · have n_3 : c = 32 := (nI_eq (a := c) (b := 32) (by omega) (by omega)).mp c_3
      exact absurd n_3 h32
  · have ht : tkF R c = tkE R c := by
      rw [tkF, if_neg h32]
      simp [hx]
    rw [hx] at e0
    refine AM.intro mf_X6_takes (by simp [Value.category]) (Nat.le_of_ble_eq_true rfl) (fun X hl hE hnm hX => ?_)
    subst hl
    subst hE
    show AW X _ _ 0 0 0 [some (.ref a), some (.int (nI c))] []
    refine aw_iload_n hX dX6_takes_0 rfl ?_
    refine aw_bipush hX (32) dX6_takes_1 (by decide) ?_
    refine aw_icmp_ne hX 20 dX6_takes_3 (by decide) (fun c_3 => ?_) (fun c_3 => ?_)
    · have n_3 : ¬ c = 32 := fun q => c_3 ((nI_eq (a := c) (b := 32) (by omega) (by omega)).mpr q)
      refine aw_aload_n hX dX6_takes_20 rfl ?_
      refine gt_X6_22 hX dX6_takes_21 (by assumption) (by exact rfl) ?_
      refine aw_tabIn hX 62 dX6_takes_24 (by decide) (by decide) rfl (by decide) ?_
      refine aw_aload_n hX dX6_takes_62 rfl ?_
      refine aw_iload_n hX dX6_takes_63 rfl ?_
      refine aw_callV0 hX RX6 rfl (tX6_takesEqualsSign _ _ _ e hc) rfl mf_X6_takesEqualsSign mi_X6_takesEqualsSign ms_X6_takesEqualsSign kl_X6_42 (by assumption) rfl rfl (by decide) (Nat.le_of_ble_eq_true rfl) dX6_takes_64 (by decide) (fun v_64 h_64 p_64 => ?_)
      obtain ⟨sm, q⟩ := p_64
      rw [← ht] at q
      rcases q with ⟨R', q1, rfl, q3⟩ | ⟨q1, rfl, q3⟩
      · exact aw_zret hX rfl (Or.inr rfl) rfl rfl rfl dX6_takes_67 ⟨sm, Or.inl ⟨R', q1, rfl, q3⟩⟩
      · exact aw_zret hX rfl (Or.inl rfl) rfl rfl rfl dX6_takes_67 ⟨sm, Or.inr ⟨q1, rfl, q3⟩⟩
    · have n_3 : c = 32 := (nI_eq (a := c) (b := 32) (by omega) (by omega)).mp c_3
      exact absurd n_3 h32
  · have ht : tkF R c = tkA R c := by
      rw [tkF, if_neg h32]
      simp [hx]
    rw [hx] at e0
    refine AM.intro mf_X6_takes (by simp [Value.category]) (Nat.le_of_ble_eq_true rfl) (fun X hl hE hnm hX => ?_)
    subst hl
    subst hE
    show AW X _ _ 0 0 0 [some (.ref a), some (.int (nI c))] []
    refine aw_iload_n hX dX6_takes_0 rfl ?_
    refine aw_bipush hX (32) dX6_takes_1 (by decide) ?_
    refine aw_icmp_ne hX 20 dX6_takes_3 (by decide) (fun c_3 => ?_) (fun c_3 => ?_)
    · have n_3 : ¬ c = 32 := fun q => c_3 ((nI_eq (a := c) (b := 32) (by omega) (by omega)).mpr q)
      refine aw_aload_n hX dX6_takes_20 rfl ?_
      refine gt_X6_22 hX dX6_takes_21 (by assumption) (by exact rfl) ?_
      refine aw_tabIn hX 68 dX6_takes_24 (by decide) (by decide) rfl (by decide) ?_
      refine aw_aload_n hX dX6_takes_68 rfl ?_
      refine aw_iload_n hX dX6_takes_69 rfl ?_
      refine aw_callV0 hX RX6 rfl (tX6_takesFirstDigit _ _ _ e hR hc) rfl mf_X6_takesFirstDigit mi_X6_takesFirstDigit ms_X6_takesFirstDigit kl_X6_45 (by assumption) rfl rfl (by decide) (Nat.le_of_ble_eq_true rfl) dX6_takes_70 (by decide) (fun v_70 h_70 p_70 => ?_)
      obtain ⟨sm, q⟩ := p_70
      rw [← ht] at q
      rcases q with ⟨R', q1, rfl, q3⟩ | ⟨q1, rfl, q3⟩
      · exact aw_zret hX rfl (Or.inr rfl) rfl rfl rfl dX6_takes_73 ⟨sm, Or.inl ⟨R', q1, rfl, q3⟩⟩
      · exact aw_zret hX rfl (Or.inl rfl) rfl rfl rfl dX6_takes_73 ⟨sm, Or.inr ⟨q1, rfl, q3⟩⟩
    · have n_3 : c = 32 := (nI_eq (a := c) (b := 32) (by omega) (by omega)).mp c_3
      exact absurd n_3 h32
  · have ht : tkF R c = tkB R c := by
      rw [tkF, if_neg h32]
      simp [hx]
    rw [hx] at e0
    refine AM.intro mf_X6_takes (by simp [Value.category]) (Nat.le_of_ble_eq_true rfl) (fun X hl hE hnm hX => ?_)
    subst hl
    subst hE
    show AW X _ _ 0 0 0 [some (.ref a), some (.int (nI c))] []
    refine aw_iload_n hX dX6_takes_0 rfl ?_
    refine aw_bipush hX (32) dX6_takes_1 (by decide) ?_
    refine aw_icmp_ne hX 20 dX6_takes_3 (by decide) (fun c_3 => ?_) (fun c_3 => ?_)
    · have n_3 : ¬ c = 32 := fun q => c_3 ((nI_eq (a := c) (b := 32) (by omega) (by omega)).mpr q)
      refine aw_aload_n hX dX6_takes_20 rfl ?_
      refine gt_X6_22 hX dX6_takes_21 (by assumption) (by exact rfl) ?_
      refine aw_tabIn hX 74 dX6_takes_24 (by decide) (by decide) rfl (by decide) ?_
      refine aw_aload_n hX dX6_takes_74 rfl ?_
      refine aw_iload_n hX dX6_takes_75 rfl ?_
      refine aw_callV0 hX RX6 rfl (tX6_takesSecondDigit _ _ _ e hR hx hc) rfl mf_X6_takesSecondDigit mi_X6_takesSecondDigit ms_X6_takesSecondDigit kl_X6_48 (by assumption) rfl rfl (by decide) (Nat.le_of_ble_eq_true rfl) dX6_takes_76 (by decide) (fun v_76 h_76 p_76 => ?_)
      obtain ⟨sm, q⟩ := p_76
      rw [← ht] at q
      rcases q with ⟨R', q1, rfl, q3⟩ | ⟨q1, rfl, q3⟩
      · exact aw_zret hX rfl (Or.inr rfl) rfl rfl rfl dX6_takes_79 ⟨sm, Or.inl ⟨R', q1, rfl, q3⟩⟩
      · exact aw_zret hX rfl (Or.inl rfl) rfl rfl rfl dX6_takes_79 ⟨sm, Or.inr ⟨q1, rfl, q3⟩⟩
    · have n_3 : c = 32 := (nI_eq (a := c) (b := 32) (by omega) (by omega)).mp c_3
      exact absurd n_3 h32
  · have ht : tkF R c = tkC R c := by
      rw [tkF, if_neg h32]
      simp [hx]
    rw [hx] at e0
    refine AM.intro mf_X6_takes (by simp [Value.category]) (Nat.le_of_ble_eq_true rfl) (fun X hl hE hnm hX => ?_)
    subst hl
    subst hE
    show AW X _ _ 0 0 0 [some (.ref a), some (.int (nI c))] []
    refine aw_iload_n hX dX6_takes_0 rfl ?_
    refine aw_bipush hX (32) dX6_takes_1 (by decide) ?_
    refine aw_icmp_ne hX 20 dX6_takes_3 (by decide) (fun c_3 => ?_) (fun c_3 => ?_)
    · have n_3 : ¬ c = 32 := fun q => c_3 ((nI_eq (a := c) (b := 32) (by omega) (by omega)).mpr q)
      refine aw_aload_n hX dX6_takes_20 rfl ?_
      refine gt_X6_22 hX dX6_takes_21 (by assumption) (by exact rfl) ?_
      refine aw_tabOut hX 80 dX6_takes_24 (Or.inr (by decide)) (by decide) ?_
      refine aw_aload_n hX dX6_takes_80 rfl ?_
      refine aw_iload_n hX dX6_takes_81 rfl ?_
      refine aw_callV0 hX RX6 rfl (tX6_takesCharacter _ _ _ e hR hx hc) rfl mf_X6_takesCharacter mi_X6_takesCharacter ms_X6_takesCharacter kl_X6_51 (by assumption) rfl rfl (by decide) (Nat.le_of_ble_eq_true rfl) dX6_takes_82 (by decide) (fun v_82 h_82 p_82 => ?_)
      obtain ⟨sm, q⟩ := p_82
      rw [← ht] at q
      rcases q with ⟨R', q1, rfl, q3⟩ | ⟨q1, rfl, q3⟩
      · exact aw_zret hX rfl (Or.inr rfl) rfl rfl rfl dX6_takes_85 ⟨sm, Or.inl ⟨R', q1, rfl, q3⟩⟩
      · exact aw_zret hX rfl (Or.inl rfl) rfl rfl rfl dX6_takes_85 ⟨sm, Or.inr ⟨q1, rfl, q3⟩⟩
    · have n_3 : c = 32 := (nI_eq (a := c) (b := 32) (by omega) (by omega)).mp c_3
      exact absurd n_3 h32
theorem tkF_RW {R' : RV} (hR : RW R) (hc : c < 256) (h : tkF R c = some R') : RW R' := by
  obtain ⟨h1, h2, h3, h4, h5, h6, h7⟩ := id hR
  have hd := dgF_in c hc
  unfold tkF at h
  split at h
  · split at h
    · cases h
    · cases h; exact hR
  · split at h
    · unfold tkS at h
      split at h
      · cases h
        refine ⟨by show _ + 1 ≤ 8; omega, h2, h3, h4, by show (4 : Nat) ≤ 4; decide, fun q => absurd q (by show ¬ (4 : Nat) = 3; decide), fun _ => ⟨by show 1 ≤ _ + 1; omega, ?_⟩⟩
        show updN R.1.2.2.2.1 R.1.2.2.2.2 0 (R.1.2.2.2.2 + 1 - 1) ≤ 12
        rw [Nat.add_sub_cancel, updN_eq]
        decide
      · split at h
        · cases h
          refine ⟨h1, fun j hj => ?_, by show c - 97 < 26; omega, h4, by show (1 : Nat) ≤ 4; decide, fun q => absurd q (by show ¬ (1 : Nat) = 3; decide), fun q => absurd q (by show ¬ (1 : Nat) = 4; decide)⟩
          show updN R.1.2.1 (c - 97) 0 j ≤ 5
          unfold updN
          split
          · decide
          · exact h2 j hj
        · cases h
    · split at h
      · unfold tkE at h
        split at h
        · cases h
          exact ⟨h1, h2, h3, h4, by show (2 : Nat) ≤ 4; decide, fun q => absurd q (by show ¬ (2 : Nat) = 3; decide), fun q => absurd q (by show ¬ (2 : Nat) = 4; decide)⟩
        · cases h
      · split at h
        · unfold tkA at h
          split at h
          · cases h
            exact ⟨h1, h2, h3, h4, by show (0 : Nat) ≤ 4; decide, fun q => absurd q (by show ¬ (0 : Nat) = 3; decide), fun q => absurd q (by show ¬ (0 : Nat) = 4; decide)⟩
          · split at h
            · rename_i hq
              cases h
              exact ⟨h1, h2, h3, by show (dgF c).toNat ≤ 7; omega, by show (3 : Nat) ≤ 4; decide, fun _ => hq.1, fun q => absurd q (by show ¬ (3 : Nat) = 4; decide)⟩
            · cases h
        · split at h
          · rename_i hx3
            unfold tkB at h
            split at h
            · cases h
              have h8 := h6 hx3
              refine ⟨h1, fun j hj => ?_, h3, h4, by show (2 : Nat) ≤ 4; decide, fun q => absurd q (by show ¬ (2 : Nat) = 3; decide), fun q => absurd q (by show ¬ (2 : Nat) = 4; decide)⟩
              show updN R.1.2.1 R.2.2.2.1 (R.1.2.1 R.2.2.2.1 + 1) j ≤ 5
              unfold updN
              split
              · omega
              · exact h2 j hj
            · cases h
          · have hx4 : R.2.2.1 = 4 := by omega
            obtain ⟨h8, h9⟩ := h7 hx4
            unfold tkC at h
            split at h
            · cases h
              exact ⟨h1, h2, h3, h4, by show (0 : Nat) ≤ 4; decide, fun q => absurd q (by show ¬ (0 : Nat) = 3; decide), fun q => absurd q (by show ¬ (0 : Nat) = 4; decide)⟩
            · split at h
              · rename_i hq
                cases h
                refine ⟨h1, h2, h3, h4, by show (4 : Nat) ≤ 4; decide, fun q => absurd q (by show ¬ (4 : Nat) = 3; decide), fun _ => ⟨h8, ?_⟩⟩
                show updN R.1.2.2.2.1 (R.1.2.2.2.2 - 1) (R.1.2.2.2.1 (R.1.2.2.2.2 - 1) + 1) (R.1.2.2.2.2 - 1) ≤ 12
                rw [updN_eq]
                omega
              · cases h
def rdF (tx : Nat → Nat) : Nat → Nat → RV → Option Nat × RV
  | 0, _, R => (none, R)
  | r + 1, i, R => match tkF R (tx i) with
    | none => (some i, R)
    | some R' => rdF tx r (i + 1) R'
theorem rdF_n {tx : Nat → Nat} {r i : Nat} (h : tkF R (tx i) = none) : rdF tx (r + 1) i R = (some i, R) := by
  rw [rdF, h]
theorem rdF_s {tx : Nat → Nat} {r i : Nat} {R' : RV} (h : tkF R (tx i) = some R') : rdF tx (r + 1) i R = rdF tx r (i + 1) R' := by
  rw [rdF, h]
def erI (q : Option Nat × RV) (len : Nat) : Int32 := match q.1 with
  | some o => nI o
  | none => if q.2.2.2.1 = 0 then -1 else nI len
theorem tX6_errorIn (l : Launch) (E : EV) (n : Nat) (H : HRead h a R) (hRl : R.2.2.2.1 < 26) (hRf : R.2.2.2.2 ≤ 7) {s : Nat} {S : SV} (HSs : HS h s S) (hsa : s + 5 ≤ a ∨ a + 6 ≤ s) (hK : S.2.2.2.2 ≤ 8) (hw : ∀ c, c < 26 → S.2.1 c ≤ 5) {b : Nat} {tx : Nat → Nat} (hb : h b = some (cI 120 (nF tx))) (hba : b < a ∨ a + 6 ≤ b) (htx : ∀ j, j < 120 → tx j < 256) {len : Nat} (hlen : len ≤ 120) : MX6_errorIn l E n h [.ref a, .ref b, .int (nI len), .ref s] (fun r h' => r = some (.int (erI (rdF tx len 0 (S, 0, 0, R.2.2.2.1, R.2.2.2.2)) len)) ∧ HRead h' a (rdF tx len 0 (S, 0, 0, R.2.2.2.1, R.2.2.2.2)).2 ∧ RW (rdF tx len 0 (S, 0, 0, R.2.2.2.1, R.2.2.2.2)).2 ∧ Sm a (a + 6) h h') := by
  have e := H
  obtain ⟨e0, e1⟩ := H
  have s0 := e1.1
  refine AM.intro mf_X6_errorIn (by simp [Value.category]) (Nat.le_of_ble_eq_true rfl) (fun X hl hE hnm hX => ?_)
  subst hl
  subst hE
  show AW X _ _ 0 0 0 [some (.ref a), some (.ref b), some (.int (nI len)), some (.ref s), none] []
  have loop : ∀ (r i : Nat) (Q : RV) (hh : HP), i + r = len → HRead hh a Q → RW Q → Sm a (a + 6) h hh → rdF tx len 0 (S, 0, 0, R.2.2.2.1, R.2.2.2.2) = rdF tx r i Q → AW X n hh 0 0 21 [some (.ref a), some (.ref b), some (.int (nI len)), some (.ref s), some (.int (nI i))] [] := by
    intro r
    induction r with
    | zero =>
      intro i Q hh h1 H' hQ sm hq
      have hi : i = len := by omega
      subst hi
      replace hq := hq.trans (show rdF tx 0 i Q = (none, Q) from rfl)
      rw [hq] at hX
      obtain ⟨e0, e1⟩ := id H'
      have hQ4 := hQ.2.2.2.2.1
      refine aw_iload hX dX6_errorIn_21 rfl ?_
      refine aw_iload_n hX dX6_errorIn_23 rfl ?_
      refine aw_icmp_ge hX 54 dX6_errorIn_24 (by decide) (fun c_24 => ?_) (fun c_24 => ?_)
      · refine aw_aload_n hX dX6_errorIn_54 rfl ?_
        refine gt_X6_22 hX dX6_errorIn_55 (by assumption) (by exact rfl) ?_
        refine aw_if_ne hX 65 dX6_errorIn_58 (by decide) (fun c_58 => ?_) (fun c_58 => ?_)
        · have n_58 : ¬ Q.2.2.1 = 0 := fun q => c_58 ((nI_eq (a := Q.2.2.1) (b := 0) (by omega) (by omega)).mpr q)
          refine aw_iload_n hX dX6_errorIn_65 rfl ?_
          exact aw_iret hX rfl rfl rfl rfl dX6_errorIn_66 (by exact ⟨by first | (rw [erI, if_pos n_58]; done) | (rw [erI, if_neg n_58]; done) | (simp only [erI, n_58]; rfl), H', hQ, sm⟩)
        · have n_58 : Q.2.2.1 = 0 := (nI_eq (a := Q.2.2.1) (b := 0) (by omega) (by omega)).mp c_58
          refine aw_iconst hX (-1) dX6_errorIn_61 (by decide) ?_
          refine aw_goto hX 66 dX6_errorIn_62 (by decide) ?_
          exact aw_iret hX rfl rfl rfl rfl dX6_errorIn_66 (by exact ⟨by first | (rw [erI, if_pos n_58]; done) | (rw [erI, if_neg n_58]; done) | (simp only [erI, n_58]; rfl), H', hQ, sm⟩)
      · exact absurd (Int32.le_refl _) c_24
    | succ r ih =>
      intro i Q hh h1 H' hQ sm hq
      have hi : i < len := by omega
      have hb' : hh b = some (cI 120 (nF tx)) := (sm.at (by omega)).trans hb
      obtain ⟨e0, e1⟩ := id H'
      refine aw_iload hX dX6_errorIn_21 rfl ?_
      refine aw_iload_n hX dX6_errorIn_23 rfl ?_
      refine aw_icmp_ge hX 54 dX6_errorIn_24 (by decide) (fun c_24 => ?_) (fun c_24 => ?_)
      · exact absurd c_24 (nI_ge hi (by omega))
      · refine aw_iload hX dX6_errorIn_27 rfl ?_
        refine aw_aload_n hX dX6_errorIn_29 rfl ?_
        refine aw_alen hX _ (by assumption) (by decide) rfl dX6_errorIn_30 ?_
        refine aw_icmp_ge hX 54 dX6_errorIn_31 (by decide) (fun c_31 => ?_) (fun c_31 => ?_)
        · exact absurd c_31 (nI_ge (a := i) (b := 120) (by omega) (by decide))
        · refine aw_aload_n hX dX6_errorIn_34 rfl ?_
          refine aw_aload_n hX dX6_errorIn_35 rfl ?_
          refine aw_iload hX dX6_errorIn_36 rfl ?_
          refine aw_ialdN hX (i) (by assumption) rfl (by omega) (by first | decide | assumption) dX6_errorIn_38 ?_
          refine aw_callV0 hX RX6 rfl (tX6_takes _ _ _ H' hQ (htx i (by omega))) rfl mf_X6_takes mi_X6_takes ms_X6_takes kl_X6_35 (by assumption) rfl rfl (by decide) (Nat.le_of_ble_eq_true rfl) dX6_errorIn_39 (by decide) (fun v_39 h_39 p_39 => ?_)
          obtain ⟨sm2, q⟩ := p_39
          rcases q with ⟨R', q1, rfl, q3⟩ | ⟨q1, rfl, q3⟩
          · (refine aw_if_ne hX 48 dX6_errorIn_42 (by decide) (fun _ => ?_) (fun c_42 => absurd c_42 (by decide)); refine aw_iinc hX (nI (i + 1)) dX6_errorIn_48 rfl (nI_1 i) ?_; refine aw_goto hX 21 dX6_errorIn_51 (by decide) ?_; exact ih (i + 1) R' _ (by omega) q3 (tkF_RW hQ (htx i (by omega)) q1) (sm.tr sm2 (Nat.le_refl _) (Nat.le_refl _)) (hq.trans (rdF_s q1)))
          · (replace hq := hq.trans (rdF_n q1); rw [hq] at hX; refine aw_if_ne hX 48 dX6_errorIn_42 (by decide) (fun c_42 => absurd rfl c_42) (fun _ => ?_); refine aw_iload hX dX6_errorIn_45 rfl ?_; exact aw_iret hX rfl rfl rfl rfl dX6_errorIn_47 ⟨rfl, q3, hQ, sm.tr sm2 (Nat.le_refl _) (Nat.le_refl _)⟩)
  refine aw_aload_n hX dX6_errorIn_0 rfl ?_
  refine gt_X6_12 hX dX6_errorIn_1 (by assumption) (by exact rfl) ?_
  refine aw_aload_n hX dX6_errorIn_4 rfl ?_
  refine aw_callV0 hX RX6 rfl (tX7_copyFrom _ _ _ e1 HSs (by omega)) rfl mf_X7_copyFrom mi_X7_copyFrom ms_X7_copyFrom kl_X6_31 (by assumption) rfl rfl (by decide) (Nat.le_of_ble_eq_true rfl) dX6_errorIn_5 (by decide) (fun v_5 h_5 p_5 => ?_)
  obtain ⟨rfl, q, sm⟩ := p_5
  have e := e.dr (S := S) q sm
  have sm0 := Sm.tr (lo := a) (hi := a + 6) Sm.rf sm (by omega) (by omega)
  have e0 := e.1
  refine aw_aload_n hX dX6_errorIn_8 rfl ?_
  refine aw_iconst hX (0) dX6_errorIn_9 (by decide) ?_
  refine pt_X6_18 hX dX6_errorIn_10 (by assumption) (Nat.le_of_ble_eq_true rfl) ?_
  dsimp only [List.set_cons_zero, List.set_cons_succ]
  have e := e.a0 0 R.2.2.1 R.2.2.2.1 R.2.2.2.2
  have e0 := e.1
  refine aw_aload_n hX dX6_errorIn_13 rfl ?_
  refine aw_iconst hX (0) dX6_errorIn_14 (by decide) ?_
  refine pt_X6_22 hX dX6_errorIn_15 (by assumption) (Nat.le_of_ble_eq_true rfl) ?_
  dsimp only [List.set_cons_zero, List.set_cons_succ]
  have e := e.a0 0 0 R.2.2.2.1 R.2.2.2.2
  refine aw_iconst hX (0) dX6_errorIn_18 (by decide) ?_
  refine aw_istore hX dX6_errorIn_19 (Nat.le_of_ble_eq_true rfl) ?_
  exact loop len 0 _ _ (by omega) e ⟨hK, hw, hRl, hRf, by show (0 : Nat) ≤ 4; decide, fun q => absurd q (by show ¬ (0 : Nat) = 3; decide), fun q => absurd q (by show ¬ (0 : Nat) = 4; decide)⟩ ((sm0.set (by omega) (by omega)).set (by omega) (by omega)) rfl
end READ
