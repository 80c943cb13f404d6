/-! what the modules hold -/
abbrev IF : Type := Nat → Int32
def HDots (h : HP) (d : Nat) (w : Int32) (sh ai st kn fl : IF) : Prop :=
  h d = some (cO 0 [.int w, .ref (d + 1), .ref (d + 2), .ref (d + 3), .ref (d + 4), .ref (d + 5)]) ∧ h (d + 1) = some (cI 40 sh) ∧ h (d + 2) = some (cI 40 ai) ∧ h (d + 3) = some (cI 40 st) ∧ h (d + 4) = some (cI 40 kn) ∧ h (d + 5) = some (cI 280 fl)
theorem HDots.sm {h h' : HP} {d lo hi : Nat} {w : Int32} {sh ai st kn fl : IF} (H : HDots h d w sh ai st kn fl) (s : Sm lo hi h h') (hq : hi ≤ d ∨ d + 6 ≤ lo) : HDots h' d w sh ai st kn fl :=
  ⟨(s.at (by omega)).trans H.1, (s.at (by omega)).trans H.2.1, (s.at (by omega)).trans H.2.2.1, (s.at (by omega)).trans H.2.2.2.1, (s.at (by omega)).trans H.2.2.2.2.1, (s.at (by omega)).trans H.2.2.2.2.2⟩
theorem tX0_hasColumn (l : Launch) (E : EV) (n : Nat) {h : HP} {d : Nat} {w : Int32} {sh ai st kn fl : IF} (H : HDots h d w sh ai st kn fl) (c : Int32) : MX0_hasColumn l E n h [.ref d, .int c] (PR (.int (bI (0 ≤ c ∧ c < w ∧ c < 40))) h) := by
  obtain ⟨e0, e1, e2, e3, e4, e5⟩ := H
  refine AM.intro mf_X0_hasColumn (by simp [Value.category]) (Nat.le_of_ble_eq_true rfl) (fun X hl hE hnm hX => ?_)
  subst hl
  subst hE
  show AW X _ _ 0 0 0 [some (.ref d), some (.int c)] []
  refine aw_iload_n hX dX0_hasColumn_0 rfl ?_
  refine aw_if_lt hX 22 dX0_hasColumn_1 (by decide) (fun c_1 => ?_) (fun c_1 => ?_)
  · refine aw_iconst hX (0) dX0_hasColumn_22 (by decide) ?_
    exact aw_zret hX rfl (by first | exact Or.inl rfl | exact Or.inr rfl | assumption) rfl rfl rfl dX0_hasColumn_23 (by first | exact prT (by simp only [bI_eq0, Decidable.not_not, Int32.lt_iff_toInt_lt, Int32.le_iff_toInt_le, Int32.reduceToInt] at c_1 ⊢; omega) | exact prF (by simp only [bI_eq0, Decidable.not_not, Int32.lt_iff_toInt_lt, Int32.le_iff_toInt_le, Int32.reduceToInt] at c_1 ⊢; omega))
  · refine aw_iload_n hX dX0_hasColumn_4 rfl ?_
    refine aw_aload_n hX dX0_hasColumn_5 rfl ?_
    refine gt_X0_9 hX dX0_hasColumn_6 (by assumption) (by exact rfl) ?_
    refine aw_icmp_ge hX 22 dX0_hasColumn_9 (by decide) (fun c_9 => ?_) (fun c_9 => ?_)
    · refine aw_iconst hX (0) dX0_hasColumn_22 (by decide) ?_
      exact aw_zret hX rfl (by first | exact Or.inl rfl | exact Or.inr rfl | assumption) rfl rfl rfl dX0_hasColumn_23 (by first | exact prT (by simp only [bI_eq0, Decidable.not_not, Int32.lt_iff_toInt_lt, Int32.le_iff_toInt_le, Int32.reduceToInt] at c_1 c_9 ⊢; omega) | exact prF (by simp only [bI_eq0, Decidable.not_not, Int32.lt_iff_toInt_lt, Int32.le_iff_toInt_le, Int32.reduceToInt] at c_1 c_9 ⊢; omega))
    · refine aw_iload_n hX dX0_hasColumn_12 rfl ?_
      refine aw_bipush hX (40) dX0_hasColumn_13 (by decide) ?_
      refine aw_icmp_ge hX 22 dX0_hasColumn_15 (by decide) (fun c_15 => ?_) (fun c_15 => ?_)
      · refine aw_iconst hX (0) dX0_hasColumn_22 (by decide) ?_
        exact aw_zret hX rfl (by first | exact Or.inl rfl | exact Or.inr rfl | assumption) rfl rfl rfl dX0_hasColumn_23 (by first | exact prT (by simp only [bI_eq0, Decidable.not_not, Int32.lt_iff_toInt_lt, Int32.le_iff_toInt_le, Int32.reduceToInt] at c_1 c_9 c_15 ⊢; omega) | exact prF (by simp only [bI_eq0, Decidable.not_not, Int32.lt_iff_toInt_lt, Int32.le_iff_toInt_le, Int32.reduceToInt] at c_1 c_9 c_15 ⊢; omega))
      · refine aw_iconst hX (1) dX0_hasColumn_18 (by decide) ?_
        refine aw_goto hX 23 dX0_hasColumn_19 (by decide) ?_
        exact aw_zret hX rfl (by first | exact Or.inl rfl | exact Or.inr rfl | assumption) rfl rfl rfl dX0_hasColumn_23 (by first | exact prT (by simp only [bI_eq0, Decidable.not_not, Int32.lt_iff_toInt_lt, Int32.le_iff_toInt_le, Int32.reduceToInt] at c_1 c_9 c_15 ⊢; omega) | exact prF (by simp only [bI_eq0, Decidable.not_not, Int32.lt_iff_toInt_lt, Int32.le_iff_toInt_le, Int32.reduceToInt] at c_1 c_9 c_15 ⊢; omega))
theorem tX0_hasDot (l : Launch) (E : EV) (n : Nat) {h : HP} {d : Nat} {w : Int32} {sh ai st kn fl : IF} (H : HDots h d w sh ai st kn fl) (c r : Int32) : MX0_hasDot l E n h [.ref d, .int c, .int r] (PR (.int (bI ((0 ≤ c ∧ c < w ∧ c < 40) ∧ 0 ≤ r ∧ r < 7))) h) := by
  have e := H
  obtain ⟨e0, e1, e2, e3, e4, e5⟩ := H
  refine AM.intro mf_X0_hasDot (by simp [Value.category]) (Nat.le_of_ble_eq_true rfl) (fun X hl hE hnm hX => ?_)
  subst hl
  subst hE
  show AW X _ _ 0 0 0 [some (.ref d), some (.int c), some (.int r)] []
  refine aw_aload_n hX dX0_hasDot_0 rfl ?_
  refine aw_iload_n hX dX0_hasDot_1 rfl ?_
  refine aw_callVp hX RX0 rfl (tX0_hasColumn _ _ _ e _) rfl mf_X0_hasColumn mi_X0_hasColumn ms_X0_hasColumn kl_X0_41 (by assumption) rfl rfl (by decide) (Nat.le_of_ble_eq_true rfl) dX0_hasDot_2 (by decide) ?_
  refine aw_if_eq hX 22 dX0_hasDot_5 (by decide) (fun c_5 => ?_) (fun c_5 => ?_)
  · refine aw_iconst hX (0) dX0_hasDot_22 (by decide) ?_
    exact aw_zret hX rfl (by first | exact Or.inl rfl | exact Or.inr rfl | assumption) rfl rfl rfl dX0_hasDot_23 (by first | exact prT (by simp only [bI_eq0, Decidable.not_not, Int32.lt_iff_toInt_lt, Int32.le_iff_toInt_le, Int32.reduceToInt] at c_5 ⊢; omega) | exact prF (by simp only [bI_eq0, Decidable.not_not, Int32.lt_iff_toInt_lt, Int32.le_iff_toInt_le, Int32.reduceToInt] at c_5 ⊢; omega))
  · refine aw_iload_n hX dX0_hasDot_8 rfl ?_
    refine aw_if_lt hX 22 dX0_hasDot_9 (by decide) (fun c_9 => ?_) (fun c_9 => ?_)
    · refine aw_iconst hX (0) dX0_hasDot_22 (by decide) ?_
      exact aw_zret hX rfl (by first | exact Or.inl rfl | exact Or.inr rfl | assumption) rfl rfl rfl dX0_hasDot_23 (by first | exact prT (by simp only [bI_eq0, Decidable.not_not, Int32.lt_iff_toInt_lt, Int32.le_iff_toInt_le, Int32.reduceToInt] at c_5 c_9 ⊢; omega) | exact prF (by simp only [bI_eq0, Decidable.not_not, Int32.lt_iff_toInt_lt, Int32.le_iff_toInt_le, Int32.reduceToInt] at c_5 c_9 ⊢; omega))
    · refine aw_iload_n hX dX0_hasDot_12 rfl ?_
      refine aw_bipush hX (7) dX0_hasDot_13 (by decide) ?_
      refine aw_icmp_ge hX 22 dX0_hasDot_15 (by decide) (fun c_15 => ?_) (fun c_15 => ?_)
      · refine aw_iconst hX (0) dX0_hasDot_22 (by decide) ?_
        exact aw_zret hX rfl (by first | exact Or.inl rfl | exact Or.inr rfl | assumption) rfl rfl rfl dX0_hasDot_23 (by first | exact prT (by simp only [bI_eq0, Decidable.not_not, Int32.lt_iff_toInt_lt, Int32.le_iff_toInt_le, Int32.reduceToInt] at c_5 c_9 c_15 ⊢; omega) | exact prF (by simp only [bI_eq0, Decidable.not_not, Int32.lt_iff_toInt_lt, Int32.le_iff_toInt_le, Int32.reduceToInt] at c_5 c_9 c_15 ⊢; omega))
      · refine aw_iconst hX (1) dX0_hasDot_18 (by decide) ?_
        refine aw_goto hX 23 dX0_hasDot_19 (by decide) ?_
        exact aw_zret hX rfl (by first | exact Or.inl rfl | exact Or.inr rfl | assumption) rfl rfl rfl dX0_hasDot_23 (by first | exact prT (by simp only [bI_eq0, Decidable.not_not, Int32.lt_iff_toInt_lt, Int32.le_iff_toInt_le, Int32.reduceToInt] at c_5 c_9 c_15 ⊢; omega) | exact prF (by simp only [bI_eq0, Decidable.not_not, Int32.lt_iff_toInt_lt, Int32.le_iff_toInt_le, Int32.reduceToInt] at c_5 c_9 c_15 ⊢; omega))
