/-! the reference: looking -/
def RI (s : IF) (v : PV) (W P o : Nat) : Prop := RS s v W ∧ VW v W P o ∧ SB v.2.2.1 ∧ ZW v W
def SCR (h : HP) (y : Nat) : Prop := (∃ f, h (y + 6) = some (cI 40 f)) ∧ (∃ f, h (y + 7) = some (cI 40 f)) ∧ (∃ f, h (y + 8) = some (cI 40 f)) ∧ (∃ f, h (y + 9) = some (cI 5 f)) ∧ (∃ f, h (y + 10) = some (cI 5 f)) ∧ (∃ f, h (y + 11) = some (cI 8 f)) ∧ (∃ f, h (y + 12) = some (cI 64 f)) ∧ (∃ f, h (y + 3) = some (cI 729 f)) ∧ ∃ f, h (y + 4) = some (cI 729 f)
def PAST (pa : IF) (Hs : List PV) : Prop := ∀ i, i < Hs.length → ∃ v W P o, Hs[i]? = some v ∧ RI (fun k => pa (729 * i + k)) v W P o
def HR (h : HP) (y : Nat) (B : FV) (W P o : Nat) : Prop := ∃ s pa sp om, HN h y s B.2.1.length B.2.2.2 sp om ∧ SCR h y ∧ h (y + 2) = some (cI 4374 pa) ∧ h (y + 5) = some (cI 120 (nF B.2.2.1)) ∧ RI s B.1 W P o ∧ PAST pa B.2.1 ∧ B.2.1.length ≤ 6
abbrev PL (y : Nat) (h : HP) (B : FV) (W P o : Nat) (a : Int32) : Option Value → HP → Prop := fun r h' => r = some (.int a) ∧ HR h' y B W P o ∧ Sm y (y + 13) h h'
theorem bI_iff {p q : Prop} [Decidable p] [Decidable q] (h : p ↔ q) : bI p = bI q := by
  by_cases hp : p
  · rw [bI_t hp, bI_t (h.mp hp)]
  · rw [bI_f hp, bI_f (fun z => hp (h.mpr z))]
theorem lt_cap {a : Int32} {K N : Nat} (hK : K ≤ N) (hN : N < 2 ^ 31) (h : a < nI K) : a < nI N := Int32.lt_of_lt_of_le h ((nI_leI (by omega) hN).mpr hK)
theorem SCR.ex6 {h : HP} {y : Nat} (H : SCR h y) (f : IF) : SCR (hset h (y + 6) (cI 40 f)) y := by
  obtain ⟨h1, ⟨f2, h2⟩, ⟨f3, h3⟩, ⟨f4, h4⟩, ⟨f5, h5⟩, ⟨f6, h6⟩, ⟨f7, h7⟩, ⟨f8, h8⟩, ⟨f9, h9⟩⟩ := H
  exact ⟨⟨f, hset_eq _ _ _⟩, ⟨f2, (hset_ne _ _ (by omega)).trans h2⟩, ⟨f3, (hset_ne _ _ (by omega)).trans h3⟩, ⟨f4, (hset_ne _ _ (by omega)).trans h4⟩, ⟨f5, (hset_ne _ _ (by omega)).trans h5⟩, ⟨f6, (hset_ne _ _ (by omega)).trans h6⟩, ⟨f7, (hset_ne _ _ (by omega)).trans h7⟩, ⟨f8, (hset_ne _ _ (by omega)).trans h8⟩, ⟨f9, (hset_ne _ _ (by omega)).trans h9⟩⟩
theorem SCR.ex7 {h : HP} {y : Nat} (H : SCR h y) (f : IF) : SCR (hset h (y + 7) (cI 40 f)) y := by
  obtain ⟨⟨f1, h1⟩, -, ⟨f3, h3⟩, ⟨f4, h4⟩, ⟨f5, h5⟩, ⟨f6, h6⟩, ⟨f7, h7⟩, ⟨f8, h8⟩, ⟨f9, h9⟩⟩ := H
  exact ⟨⟨f1, (hset_ne _ _ (by omega)).trans h1⟩, ⟨f, hset_eq _ _ _⟩, ⟨f3, (hset_ne _ _ (by omega)).trans h3⟩, ⟨f4, (hset_ne _ _ (by omega)).trans h4⟩, ⟨f5, (hset_ne _ _ (by omega)).trans h5⟩, ⟨f6, (hset_ne _ _ (by omega)).trans h6⟩, ⟨f7, (hset_ne _ _ (by omega)).trans h7⟩, ⟨f8, (hset_ne _ _ (by omega)).trans h8⟩, ⟨f9, (hset_ne _ _ (by omega)).trans h9⟩⟩
section REF4
variable {h : HP} {y : Nat} {B : FV} {W P o : Nat}
theorem HR.pic (H : HR h y B W P o) (f : IF) : HR (hset h (y + 6) (cI 40 f)) y B W P o := by
  obtain ⟨s, pa, sp, om, h1, h2, h3, h4, h5⟩ := H
  exact ⟨s, pa, sp, om, h1.off _ (by omega), h2.ex6 f, (hset_ne _ _ (by omega)).trans h3, (hset_ne _ _ (by omega)).trans h4, h5⟩
theorem HR.oth (H : HR h y B W P o) (f : IF) : HR (hset h (y + 7) (cI 40 f)) y B W P o := by
  obtain ⟨s, pa, sp, om, h1, h2, h3, h4, h5⟩ := H
  exact ⟨s, pa, sp, om, h1.off _ (by omega), h2.ex7 f, (hset_ne _ _ (by omega)).trans h3, (hset_ne _ _ (by omega)).trans h4, h5⟩
section S
variable {s : IF} {ps ty sp om : Nat} {v : PV}
theorem tX10_isMsg (l : Launch) (E : EV) (n : Nat) (H : HN h y s ps ty sp om) (R : RI s v W P o) (m : Int32) : MX10_isMessage l E n h [.ref y, .int m] (PR (.int (bI (0 ≤ m ∧ m < nI v.2.2.1.2.2.2.2 ∧ m < 8))) h) := by
  have hx := tX10_isMessage l E n H m
  rw [bI_iff (q := 0 ≤ m ∧ m < nI v.2.2.1.2.2.2.2 ∧ m < 8) (by rw [R.1.2.2.1]; exact ⟨fun q => ⟨q.1, q.2, lt_cap (N := 8) R.2.1.2.2.1.1 (by decide) q.2⟩, fun q => ⟨q.1, q.2.1⟩⟩)] at hx
  exact hx
theorem tX10_isCol (l : Launch) (E : EV) (n : Nat) (H : HN h y s ps ty sp om) (R : RI s v W P o) (c : Int32) : MX10_isColumn l E n h [.ref y, .int c] (PR (.int (bI (0 ≤ c ∧ c < v.1.1 ∧ c < 40))) h) := by
  have hx := tX10_isColumn l E n H c
  rw [bI_iff (q := 0 ≤ c ∧ c < v.1.1 ∧ c < 40) (by rw [R.1.1.1, R.1.1.2.1]; exact ⟨fun q => ⟨q.1, q.2, lt_cap (N := 40) R.1.1.2.2.2 (by decide) q.2⟩, fun q => ⟨q.1, q.2.1⟩⟩)] at hx
  exact hx
theorem le6 (r : Int32) : r ≤ 6 ↔ r < 7 := by
  rw [Int32.le_iff_toInt_le, Int32.lt_iff_toInt_lt, show (6 : Int32).toInt = 6 by decide, show (7 : Int32).toInt = 7 by decide]
  omega
theorem tX10_isDt (l : Launch) (E : EV) (n : Nat) (H : HN h y s ps ty sp om) (R : RI s v W P o) (c r : Int32) : MX10_isDot l E n h [.ref y, .int c, .int r] (PR (.int (bI ((0 ≤ c ∧ c < v.1.1 ∧ c < 40) ∧ 0 ≤ r ∧ r < 7))) h) := by
  have hx := tX10_isDot l E n H c r
  rw [bI_iff (q := (0 ≤ c ∧ c < v.1.1 ∧ c < 40) ∧ 0 ≤ r ∧ r < 7) (by rw [R.1.1.1, R.1.1.2.1, le6]; exact ⟨fun q => ⟨⟨q.1.1, q.1.2, lt_cap (N := 40) R.1.1.2.2.2 (by decide) q.1.2⟩, q.2⟩, fun q => ⟨⟨q.1.1, q.1.2.1⟩, q.2⟩⟩)] at hx
  exact hx
theorem tX10_isSh (l : Launch) (E : EV) (n : Nat) (H : HN h y s ps ty sp om) (R : RI s v W P o) (m w : Int32) : MX10_isShow l E n h [.ref y, .int m, .int w] (PR (.int (bI (wmF v.2.2.1 m w))) h) := by
  have hx := tX10_isShow l E n H m w
  rw [bI_iff (q := wmF v.2.2.1 m w) (by rw [R.1.2.2.1]; exact ⟨fun q => ⟨⟨q.1.1, q.1.2, lt_cap (N := 8) R.2.1.2.2.1.1 (by decide) q.1.2⟩, q.2⟩, fun q => ⟨⟨q.1.1, q.1.2.1⟩, q.2⟩⟩)] at hx
  exact hx
theorem tX10_shiftFor (l : Launch) (E : EV) (n : Nat) (H : HN h y s ps ty sp om) (R : RI s v W P o) {m w : Nat} (hm : m < v.2.2.1.2.2.2.2) (hw : w ≤ 1) {f0 : IF} (hp : h (y + 6) = some (cI 40 f0)) : MX10_shiftFor l E n h [.ref y, .int (nI m), .int (nI w)] (fun r h' => r = some (.int (iI (if w = 1 then bestF v W m else 0))) ∧ ∃ f, h' = hset h (y + 6) (cI 40 f)) := by
  have e := H
  obtain ⟨e0, e1⟩ := H
  obtain ⟨R1, ⟨-, -, hS, -, -, hB⟩, hSB, hZ⟩ := R
  refine AM.intro mf_X10_shiftFor (by simp [Value.category]) (Nat.le_of_ble_eq_true rfl) (fun X hl hE hnm hX => ?_)
  subst hl
  subst hE
  show AW X _ _ 0 0 0 [some (.ref y), some (.int (nI m)), some (.int (nI w))] []
  refine aw_iload_n hX dX10_shiftFor_0 rfl ?_
  refine aw_if_ne hX 8 dX10_shiftFor_1 (by decide) (fun c_1 => ?_) (fun c_1 => ?_)
  · have n_1 : ¬ w = 0 := fun q => c_1 ((nI_eq (a := w) (b := 0) (by omega) (by omega)).mpr q)
    refine aw_aload_n hX dX10_shiftFor_8 rfl ?_
    refine aw_iload_n hX dX10_shiftFor_9 rfl ?_
    refine aw_callV0 hX RX10 rfl (tX10_bestOf _ _ _ e R1 hS hSB hB hZ hm hp) rfl mf_X10_bestOf mi_X10_bestOf ms_X10_bestOf kl_X10_83 (by assumption) rfl rfl (by decide) (Nat.le_of_ble_eq_true rfl) dX10_shiftFor_10 (by decide) (fun v_10 h_10 p_10 => ?_)
    obtain ⟨rfl, f, rfl⟩ := p_10
    skip
    exact aw_iret hX rfl rfl rfl rfl dX10_shiftFor_13 (by first | exact ⟨by rw [if_pos (show w = 1 by omega)], f, rfl⟩ | exact ⟨by rw [if_neg (show ¬ w = 1 by omega)]; rfl, f0, hx⟩)
  · have n_1 : w = 0 := (nI_eq (a := w) (b := 0) (by omega) (by omega)).mp c_1
    have hx : h = hset h (y + 6) (cI 40 f0) := (hset_self hp).symm
    refine aw_iconst hX (0) dX10_shiftFor_4 (by decide) ?_
    refine aw_goto hX 13 dX10_shiftFor_5 (by decide) ?_
    skip
    exact aw_iret hX rfl rfl rfl rfl dX10_shiftFor_13 (by first | exact ⟨by rw [if_pos (show w = 1 by omega)], f, rfl⟩ | exact ⟨by rw [if_neg (show ¬ w = 1 by omega)]; rfl, f0, hx⟩)
end S
theorem tX10_strip (l : Launch) (E : EV) (n : Nat) (H : HR h y B W P o) (m : Int32) : MX10_strip l E n h [.ref y, .int m] (PL y h B W P o (fStrip B m)) := by
  have e := H
  obtain ⟨s, pa, sp, om, g1, g2, g3, g4, g5, g6, g7⟩ := H
  have e0 := g1.1
  have hS := g5.2.1.2.2.1
  refine AM.intro mf_X10_strip (by simp [Value.category]) (Nat.le_of_ble_eq_true rfl) (fun X hl hE hnm hX => ?_)
  subst hl
  subst hE
  show AW X _ _ 0 0 0 [some (.ref y), some (.int m)] []
  refine aw_aload_n hX dX10_strip_0 rfl ?_
  refine aw_iload_n hX dX10_strip_1 rfl ?_
  refine aw_callVp hX RX10 rfl (tX10_isMsg _ _ _ g1 g5 m) rfl mf_X10_isMessage mi_X10_isMessage ms_X10_isMessage kl_X10_110 (by assumption) rfl rfl (by decide) (Nat.le_of_ble_eq_true rfl) dX10_strip_2 (by decide) ?_
  refine aw_if_eq hX 16 dX10_strip_5 (by decide) (fun c_5 => ?_) (fun c_5 => ?_)
  · rw [fStrip, if_neg (bI_eq0.mp c_5)] at hX
    refine aw_sipush hX (-1001) dX10_strip_16 (by decide) ?_
    exact aw_iret hX rfl rfl rfl rfl dX10_strip_19 (by exact ⟨rfl, e, Sm.rf⟩)
  · have hv := Decidable.not_not.mp (fun q => c_5 (bI_eq0.mpr q))
    rw [fStrip, if_pos hv] at hX
    obtain ⟨k, hk, rfl⟩ := rng (BS B).2.2.2.2 (by have q : (BS B).2.2.2.2 ≤ 8 := hS.1; omega) hv.1 hv.2.1
    have hkc : (nI k).toNatClampNeg = k := nI_clamp (by have q : (BS B).2.2.2.2 ≤ 8 := hS.1; omega)
    rw [hkc] at hX
    refine aw_aload_n hX dX10_strip_8 rfl ?_
    refine aw_iload_n hX dX10_strip_9 rfl ?_
    refine aw_callVp hX RX10 rfl (tX10_stripOf _ _ _ g1 g5.1 hS hk) rfl mf_X10_stripOf mi_X10_stripOf ms_X10_stripOf kl_X10_65 (by assumption) rfl rfl (by decide) (Nat.le_of_ble_eq_true rfl) dX10_strip_10 (by decide) ?_
    refine aw_goto hX 19 dX10_strip_13 (by decide) ?_
    exact aw_iret hX rfl rfl rfl rfl dX10_strip_19 (by exact ⟨rfl, e, Sm.rf⟩)
theorem tX10_picture (l : Launch) (E : EV) (n : Nat) (H : HR h y B W P o) (m z c : Int32) : MX10_picture l E n h [.ref y, .int m, .int z, .int c] (PL y h B W P o (fPicture B W m z c)) := by
  have e := H
  obtain ⟨s, pa, sp, om, g1, g2, g3, g4, g5, g6, g7⟩ := H
  have e0 := g1.1
  have hS := g5.2.1.2.2.1
  have hK8 : (BS B).2.2.2.2 ≤ 8 := hS.1
  obtain ⟨f0, p1⟩ := g2.1
  refine AM.intro mf_X10_picture (by simp [Value.category]) (Nat.le_of_ble_eq_true rfl) (fun X hl hE hnm hX => ?_)
  subst hl
  subst hE
  show AW X _ _ 0 0 0 [some (.ref y), some (.int m), some (.int z), some (.int c)] []
  refine aw_aload_n hX dX10_picture_0 rfl ?_
  refine aw_iload_n hX dX10_picture_1 rfl ?_
  refine aw_callVp hX RX10 rfl (tX10_isMsg _ _ _ g1 g5 m) rfl mf_X10_isMessage mi_X10_isMessage ms_X10_isMessage kl_X10_110 (by assumption) rfl rfl (by decide) (Nat.le_of_ble_eq_true rfl) dX10_picture_2 (by decide) ?_
  refine aw_if_eq hX 26 dX10_picture_5 (by decide) (fun c_5 => ?_) (fun c_5 => ?_)
  · refine aw_sipush hX (-1001) dX10_picture_26 (by decide) ?_
    exact aw_iret hX rfl rfl rfl rfl dX10_picture_29 (by rw [fPicture, if_neg (fun q => bI_eq0.mp c_5 q.1)]; exact ⟨rfl, e, Sm.rf⟩)
  · refine aw_iload_n hX dX10_picture_8 rfl ?_
    refine aw_bipush hX (-2) dX10_picture_9 (by decide) ?_
    refine aw_iconst hX (2) dX10_picture_11 (by decide) ?_
    refine aw_callSp hX RX10 rfl (tX10_in _ _ _ _ z (-2) 2) rfl mf_X10_in mt_X10_in kl_X10_96 rfl (by decide) (Nat.le_of_ble_eq_true rfl) dX10_picture_12 (by decide) ?_
    refine aw_if_eq hX 26 dX10_picture_15 (by decide) (fun c_15 => ?_) (fun c_15 => ?_)
    · refine aw_sipush hX (-1001) dX10_picture_26 (by decide) ?_
      exact aw_iret hX rfl rfl rfl rfl dX10_picture_29 (by rw [fPicture]; split; rw [if_neg (bI_eq0.mp c_15)]; exact ⟨rfl, e, Sm.rf⟩; exact ⟨rfl, e, Sm.rf⟩)
    · refine aw_aload_n hX dX10_picture_18 rfl ?_
      refine aw_iload_n hX dX10_picture_19 rfl ?_
      refine aw_callVp hX RX10 rfl (tX10_isCol _ _ _ g1 g5 c) rfl mf_X10_isColumn mi_X10_isColumn ms_X10_isColumn kl_X10_68 (by assumption) rfl rfl (by decide) (Nat.le_of_ble_eq_true rfl) dX10_picture_20 (by decide) ?_
      refine aw_if_ne hX 30 dX10_picture_23 (by decide) (fun c_23 => ?_) (fun c_23 => ?_)
      · have hm := Decidable.not_not.mp (fun q => c_5 (bI_eq0.mpr q))
        have hz := Decidable.not_not.mp (fun q => c_15 (bI_eq0.mpr q))
        have hc := Decidable.not_not.mp (fun q => c_23 (bI_eq0.mpr q))
        rw [fPicture, if_pos (And.intro hm hc), if_pos hz] at hX
        have hz1 : -2 ≤ z.toInt := Int32.le_iff_toInt_le.mp hz.1
        have hz2 : z.toInt ≤ 2 := Int32.le_iff_toInt_le.mp hz.2
        obtain ⟨k, hk, rfl⟩ := rng (BS B).2.2.2.2 (by omega) hm.1 hm.2.1
        have hkc : (nI k).toNatClampNeg = k := nI_clamp (by omega)
        obtain ⟨j, hj, rfl⟩ := rng 40 (by decide) hc.1 hc.2.2
        have hjc : (nI j).toNatClampNeg = j := nI_clamp (by omega)
        rw [hkc, hjc] at hX
        obtain ⟨w, hzt, rfl⟩ : ∃ w : Int, z.toInt = w ∧ z = iI w := ⟨_, rfl, (Int32.ofInt_toInt z).symm⟩
        rw [hzt] at hX hz1 hz2
        refine aw_aload_n hX dX10_picture_30 rfl ?_
        refine aw_iload_n hX dX10_picture_31 rfl ?_
        refine aw_iload_n hX dX10_picture_32 rfl ?_
        refine aw_aload_n hX dX10_picture_33 rfl ?_
        refine gt_X10_25 hX dX10_picture_34 (by assumption) (by exact rfl) ?_
        refine aw_callV0 hX RX10 rfl (tX10_lays _ _ _ g1 g5.1 hS hk hz1 hz2 p1 (by omega)) rfl mf_X10_lays mi_X10_lays ms_X10_lays kl_X10_75 (by assumption) rfl rfl (by decide) (Nat.le_of_ble_eq_true rfl) dX10_picture_37 (by decide) (fun v_37 h_37 p_37 => ?_)
        obtain ⟨rfl, rfl⟩ := p_37
        have e := e.pic (pF W (BS B) k w)
        have e0 := (g1.off (a := y + 6) (cI 40 (pF W (BS B) k w)) (by omega)).1
        have p1 := hset_eq h (y + 6) (cI 40 (pF W (BS B) k w))
        refine aw_aload_n hX dX10_picture_40 rfl ?_
        refine gt_X10_25 hX dX10_picture_41 (by assumption) (by exact rfl) ?_
        refine aw_iload_n hX dX10_picture_44 rfl ?_
        refine aw_ialdN hX (j) (by assumption) rfl hj (by first | decide | assumption) dX10_picture_45 ?_
        exact aw_iret hX rfl rfl rfl rfl dX10_picture_46 (by exact ⟨rfl, e, by repeat first | exact Sm.rf | refine Sm.set ?_ (by omega) (by omega)⟩)
      · refine aw_sipush hX (-1001) dX10_picture_26 (by decide) ?_
        exact aw_iret hX rfl rfl rfl rfl dX10_picture_29 (by rw [fPicture, if_neg (fun q => bI_eq0.mp c_23 q.2)]; exact ⟨rfl, e, Sm.rf⟩)
theorem tX10_bestShift (l : Launch) (E : EV) (n : Nat) (H : HR h y B W P o) (m : Int32) : MX10_bestShift l E n h [.ref y, .int m] (PL y h B W P o (fBestShift B W m)) := by
  have e := H
  obtain ⟨s, pa, sp, om, g1, g2, g3, g4, g5, g6, g7⟩ := H
  have e0 := g1.1
  obtain ⟨R1, ⟨-, -, hS, -, -, hB⟩, hSB, hZ⟩ := id g5
  have hK8 : (BS B).2.2.2.2 ≤ 8 := hS.1
  obtain ⟨f0, p1⟩ := g2.1
  refine AM.intro mf_X10_bestShift (by simp [Value.category]) (Nat.le_of_ble_eq_true rfl) (fun X hl hE hnm hX => ?_)
  subst hl
  subst hE
  show AW X _ _ 0 0 0 [some (.ref y), some (.int m)] []
  refine aw_aload_n hX dX10_bestShift_0 rfl ?_
  refine aw_iload_n hX dX10_bestShift_1 rfl ?_
  refine aw_callVp hX RX10 rfl (tX10_isMsg _ _ _ g1 g5 m) rfl mf_X10_isMessage mi_X10_isMessage ms_X10_isMessage kl_X10_110 (by assumption) rfl rfl (by decide) (Nat.le_of_ble_eq_true rfl) dX10_bestShift_2 (by decide) ?_
  refine aw_if_eq hX 16 dX10_bestShift_5 (by decide) (fun c_5 => ?_) (fun c_5 => ?_)
  · rw [fBestShift, if_neg (bI_eq0.mp c_5)] at hX
    have sm := Sm.rf (lo := y) (hi := y + 13) (h := h)
    refine aw_sipush hX (-1001) dX10_bestShift_16 (by decide) ?_
    exact aw_iret hX rfl rfl rfl rfl dX10_bestShift_19 (by exact ⟨rfl, e, sm⟩)
  · have hv := Decidable.not_not.mp (fun q => c_5 (bI_eq0.mpr q))
    rw [fBestShift, if_pos hv] at hX
    obtain ⟨k, hk, rfl⟩ := rng (BS B).2.2.2.2 (by omega) hv.1 hv.2.1
    have hkc : (nI k).toNatClampNeg = k := nI_clamp (by omega)
    rw [hkc] at hX
    refine aw_aload_n hX dX10_bestShift_8 rfl ?_
    refine aw_iload_n hX dX10_bestShift_9 rfl ?_
    refine aw_callV0 hX RX10 rfl (tX10_bestOf _ _ _ g1 R1 hS hSB hB hZ hk p1) rfl mf_X10_bestOf mi_X10_bestOf ms_X10_bestOf kl_X10_83 (by assumption) rfl rfl (by decide) (Nat.le_of_ble_eq_true rfl) dX10_bestShift_10 (by decide) (fun v_10 h_10 p_10 => ?_)
    obtain ⟨rfl, f, rfl⟩ := p_10
    have e := e.pic f
    have sm := Sm.set (lo := y) (hi := y + 13) (Sm.rf (h := h)) (a := y + 6) (c := cI 40 f) (by omega) (by omega)
    refine aw_goto hX 19 dX10_bestShift_13 (by decide) ?_
    exact aw_iret hX rfl rfl rfl rfl dX10_bestShift_19 (by exact ⟨rfl, e, sm⟩)
theorem tX10_due (l : Launch) (E : EV) (n : Nat) (H : HR h y B W P o) (m w : Int32) : MX10_due l E n h [.ref y, .int m, .int w] (PL y h B W P o (fDue B W m w)) := by
  have e := H
  obtain ⟨s, pa, sp, om, g1, g2, g3, g4, g5, g6, g7⟩ := H
  have e0 := g1.1
  obtain ⟨R1, ⟨-, -, hS, -, -, hB⟩, hSB, hZ⟩ := id g5
  have hK8 : B.1.2.2.1.2.2.2.2 ≤ 8 := hS.1
  obtain ⟨f0, p1⟩ := g2.1
  refine AM.intro mf_X10_due (by simp [Value.category]) (Nat.le_of_ble_eq_true rfl) (fun X hl hE hnm hX => ?_)
  subst hl
  subst hE
  show AW X _ _ 0 0 0 [some (.ref y), some (.int m), some (.int w)] []
  refine aw_aload_n hX dX10_due_0 rfl ?_
  refine aw_iload_n hX dX10_due_1 rfl ?_
  refine aw_iload_n hX dX10_due_2 rfl ?_
  refine aw_callVp hX RX10 rfl (tX10_isSh _ _ _ g1 g5 m w) rfl mf_X10_isShow mi_X10_isShow ms_X10_isShow kl_X10_139 (by assumption) rfl rfl (by decide) (Nat.le_of_ble_eq_true rfl) dX10_due_3 (by decide) ?_
  refine aw_if_ne hX 13 dX10_due_6 (by decide) (fun c_6 => ?_) (fun c_6 => ?_)
  · have hv := Decidable.not_not.mp (fun q => c_6 (bI_eq0.mpr q))
    rw [fDue, if_pos hv] at hX
    obtain ⟨⟨k, hk, rfl⟩, j, hj, rfl⟩ := wm_ex hS.1 hv
    have hkc : (nI k).toNatClampNeg = k := nI_clamp (by omega)
    have hjc : (nI j).toNatClampNeg = j := nI_clamp (by omega)
    rw [hkc, hjc] at hX
    have hsh : -2 ≤ (if j = 1 then bestF B.1 W k else 0) ∧ (if j = 1 then bestF B.1 W k else 0) ≤ 2 := by split; exact bestF_in _ _ _; decide
    refine aw_aload_n hX dX10_due_13 rfl ?_
    refine aw_iload_n hX dX10_due_14 rfl ?_
    refine aw_aload_n hX dX10_due_15 rfl ?_
    refine aw_iload_n hX dX10_due_16 rfl ?_
    refine aw_iload_n hX dX10_due_17 rfl ?_
    refine aw_callV0 hX RX10 rfl (tX10_shiftFor _ _ _ g1 g5 hk hj p1) rfl mf_X10_shiftFor mi_X10_shiftFor ms_X10_shiftFor kl_X10_136 (by assumption) rfl rfl (by decide) (Nat.le_of_ble_eq_true rfl) dX10_due_18 (by decide) (fun v_18 h_18 p_18 => ?_)
    obtain ⟨rfl, f, rfl⟩ := p_18
    have g1 := g1.off (a := y + 6) (cI 40 f) (by omega)
    have e0 := g1.1
    have p1 := hset_eq h (y + 6) (cI 40 f)
    refine aw_aload_n hX dX10_due_21 rfl ?_
    refine gt_X10_25 hX dX10_due_22 (by assumption) (by exact rfl) ?_
    refine aw_callV0 hX RX10 rfl (tX10_lays _ _ _ g1 g5.1 hS hk hsh.1 hsh.2 p1 (by omega)) rfl mf_X10_lays mi_X10_lays ms_X10_lays kl_X10_75 (by assumption) rfl rfl (by decide) (Nat.le_of_ble_eq_true rfl) dX10_due_25 (by decide) (fun v_25 h_25 p_25 => ?_)
    obtain ⟨rfl, rfl⟩ := p_25
    rw [hset_hset]
    have e := e.pic (shF B.1 W k j)
    have g1 : HN (hset h (y + 6) (cI 40 (shF B.1 W k j))) y s B.2.1.length B.2.2.2 sp om := by rw [← hset_hset h (y + 6) (cI 40 f)]; exact g1.off _ (by omega)
    have e0 := g1.1
    have p1 := hset_eq h (y + 6) (cI 40 (shF B.1 W k j))
    have h7 : ∀ c, B7 (shF B.1 W k j c) := fun c => pF_B7 hSB _ _ _ c
    refine aw_aload_n hX dX10_due_28 rfl ?_
    refine aw_aload_n hX dX10_due_29 rfl ?_
    refine gt_X10_7 hX dX10_due_30 (by assumption) (by exact rfl) ?_
    refine aw_bipush hX (9) dX10_due_33 (by decide) ?_
    refine aw_aload_n hX dX10_due_35 rfl ?_
    refine gt_X10_25 hX dX10_due_36 (by assumption) (by exact rfl) ?_
    refine aw_iconst hX (0) dX10_due_39 (by decide) ?_
    refine aw_callVp hX RX10 rfl (tX10_differs0 _ _ _ g1 R1 hB hZ p1 h7 (fun c hc => pF_out hc)) rfl mf_X10_differs mi_X10_differs ms_X10_differs kl_X10_79 (by assumption) rfl rfl (by decide) (Nat.le_of_ble_eq_true rfl) dX10_due_40 (by decide) ?_
    exact aw_iret hX rfl rfl rfl rfl dX10_due_43 (by exact ⟨rfl, e, by repeat first | exact Sm.rf | refine Sm.set ?_ (by omega) (by omega)⟩)
  · refine aw_sipush hX (-1001) dX10_due_9 (by decide) ?_
    exact aw_iret hX rfl rfl rfl rfl dX10_due_12 (by rw [fDue, if_neg (bI_eq0.mp c_6)]; exact ⟨rfl, e, Sm.rf⟩)
end REF4
