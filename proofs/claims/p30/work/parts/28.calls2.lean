/-! showing and looking -/
def dueN (v : PV) : Int32 := sumI (fun c => bcF ((v.1.2.2.1 c ^^^ v.1.2.1 c) &&& (v.1.2.2.2.2.1 c ^^^ (-1)))) 40
abbrev aimD (v : PV) (p : IF) : DV := (v.1.1, v.1.2.1, p, v.1.2.2.2)
theorem swne {hi : Nat} {w : Int32} (hw : w.toInt < 0 ∨ (hi : Int) < w.toInt) {k : Nat} (h1 : k ≤ hi) (h2 : k < 2 ^ 31) : ¬ w = nI k := fun q => by
  rw [q, nI_toInt h2] at hw
  omega
def fDarken (B : FV) : Int32 × FV := (dueN (aimD B.1 (fun _ => 0), B.1.2), setD B (aimD B.1 (fun _ => 0)))
def fJam (B : FV) (c r : Int32) : Int32 × FV :=
  if (0 ≤ c ∧ c < B.1.1.1 ∧ c < 40) ∧ 0 ≤ r ∧ r < 7 then
    (if B.1.1.2.2.2.1 c.toNatClampNeg &&& mk r.toNatClampNeg = 0 then
      (B.1.1.2.2.2.2.2 (c.toNatClampNeg * 7 + r.toNatClampNeg), setD B (B.1.1.1, B.1.1.2.1, B.1.1.2.2.1, upd B.1.1.2.2.2.1 c.toNatClampNeg (B.1.1.2.2.2.1 c.toNatClampNeg ||| mk r.toNatClampNeg), B.1.1.2.2.2.2))
    else (-1002, B))
  else (-1001, B)
def fMend (B : FV) (c r : Int32) : Int32 × FV :=
  if (0 ≤ c ∧ c < B.1.1.1 ∧ c < 40) ∧ 0 ≤ r ∧ r < 7 then
    (bI (¬ B.1.1.2.2.2.1 c.toNatClampNeg &&& mk r.toNatClampNeg = 0), setD B (B.1.1.1, B.1.1.2.1, B.1.1.2.2.1, upd B.1.1.2.2.2.1 c.toNatClampNeg (B.1.1.2.2.2.1 c.toNatClampNeg &&& (mk r.toNatClampNeg ^^^ (-1))), upd B.1.1.2.2.2.2.1 c.toNatClampNeg (B.1.1.2.2.2.2.1 c.toNatClampNeg &&& (mk r.toNatClampNeg ^^^ (-1))), upd B.1.1.2.2.2.2.2 (c.toNatClampNeg * 7 + r.toNatClampNeg) 0))
  else (-1001, B)
def fFlips (B : FV) (c r : Int32) : Int32 := if (0 ≤ c ∧ c < B.1.1.1 ∧ c < 40) ∧ 0 ≤ r ∧ r < 7 then B.1.1.2.2.2.2.2 (c.toNatClampNeg * 7 + r.toNatClampNeg) else -1001
def fColumn (B : FV) (c w : Int32) : Int32 :=
  if 0 ≤ c ∧ c < B.1.1.1 ∧ c < 40 then (if w = 0 then B.1.1.2.1 c.toNatClampNeg else if w = 1 then B.1.1.2.2.1 c.toNatClampNeg else if w = 2 then B.1.1.2.2.2.1 c.toNatClampNeg else if w = 3 then B.1.1.2.2.2.2.1 c.toNatClampNeg else -1001) else -1001
def fLetter (B : FV) (l i : Int32) : Int32 := if (0 ≤ l ∧ l < 26) ∧ 0 ≤ i then (if i < nI ((BS B).2.1 l.toNatClampNeg) then (BS B).1 (l.toNatClampNeg * 5 + i.toNatClampNeg) else -1009) else -1001
def fMessage (B : FV) (m i : Int32) : Int32 := if (0 ≤ m ∧ m < nI (BS B).2.2.2.2 ∧ m < 8) ∧ 0 ≤ i then (if i < nI ((BS B).2.2.2.1 m.toNatClampNeg) then nI ((BS B).2.2.1 (m.toNatClampNeg * 12 + i.toNatClampNeg)) else -1009) else -1001
def fStrip (B : FV) (m : Int32) : Int32 := if 0 ≤ m ∧ m < nI (BS B).2.2.2.2 ∧ m < 8 then nI (TF (BS B) m.toNatClampNeg) else -1001
def fPower (B : FV) (a : Int32) : Int32 := if 1 ≤ a ∧ a ≤ 20 then (if a ≤ nI B.1.2.1.2.2.2.1 then B.1.2.1.2.2.2.2 ((B.1.2.1.2.2.2.1 - a.toNatClampNeg) % 20) else -1009) else -1001
def fCount (B : FV) (w : Int32) : Int32 :=
  if w = 0 then B.1.1.1 else if w = 1 then B.1.2.2.2 0 else if w = 2 then B.1.2.2.2 1 else if w = 3 then B.1.2.2.2 2 else if w = 4 then nI (BS B).2.2.2.2
  else if w = 5 then dueN B.1 else if w = 6 then sumI (fun c => bcF (B.1.1.2.2.2.1 c)) 40 else if w = 7 then sumI (fun c => bcF (B.1.1.2.2.2.2.1 c)) 40 else if w = 8 then sumI (fun c => bcF (B.1.1.2.2.1 c ^^^ B.1.1.2.1 c)) 40
  else if w = 9 then B.1.2.1.1 else if w = 10 then B.1.2.1.2.1 else if w = 11 then B.1.2.1.2.2.1 else if w = 12 then nI B.1.2.1.2.2.2.1 else if w = 13 then nI B.2.2.2 else if w = 14 then nI B.2.1.length else -1001
def fUndo (B : FV) : Int32 × FV := if B.2.1.length = 0 then (-1002, B) else (nI (B.2.1.length - 1), (B.2.1.getLastD B.1, B.2.1.dropLast, B.2.2))
section C2
variable {h : HP} {x : Nat} {B : FV}
theorem tX9_darken (l : Launch) (E : EV) (n : Nat) (H : HB h x B) : MX9_darken l E n h [.ref x] (PB x h (fDarken B)) := by
  have e := H
  obtain ⟨e0, ev, ⟨f, vs, hf, hz, eh, hs⟩, et, -⟩ := H
  have h0 := eh.1
  refine AM.intro mf_X9_darken (by simp [Value.category]) (Nat.le_of_ble_eq_true rfl) (fun X hl hE hnm hX => ?_)
  subst hl
  subst hE
  show AW X _ _ 0 0 0 [some (.ref x)] []
  refine aw_aload_n hX dX9_darken_0 rfl ?_
  refine gt_X9_22 hX dX9_darken_1 (by assumption) (by exact rfl) ?_
  refine aw_aload_n hX dX9_darken_4 rfl ?_
  refine gt_X9_10 hX dX9_darken_5 (by assumption) (by exact rfl) ?_
  refine aw_callV0 hX RX9 rfl (tX2_keep _ _ _ eh hf hz ev (by omega)) rfl mf_X2_keep mi_X2_keep ms_X2_keep kl_X9_62 (by assumption) rfl rfl (by decide) (Nat.le_of_ble_eq_true rfl) dX9_darken_8 (by decide) (fun v_8 h_8 p_8 => ?_)
  obtain ⟨rfl, hh, sm⟩ := p_8
  have e := e.kept hf hz hs hh sm
  have sm := Sm.tr (lo := x) (hi := x + 184) Sm.rf sm (by omega) (by omega)
  have e0 := e.1
  have s0 := e.2.1.1
  have d0 := e.2.1.2.1.1
  have m0 := e.2.1.2.2.1.1
  have c0 := e.2.1.2.2.2.1.1
  have n0 := e.2.1.2.2.2.2
  refine aw_aload_n hX dX9_darken_11 rfl ?_
  refine gt_X9_10 hX dX9_darken_12 (by assumption) (by exact rfl) ?_
  refine gt_X9_66 hX dX9_darken_15 (by assumption) (by exact rfl) ?_
  refine aw_callV0 hX RX9 rfl (tX0_aimAtDark _ _ _ e.2.1.2.1) rfl mf_X0_aimAtDark mi_X0_aimAtDark ms_X0_aimAtDark kl_X9_162 (by assumption) rfl rfl (by decide) (Nat.le_of_ble_eq_true rfl) dX9_darken_18 (by decide) (fun v_18 h_18 p_18 => ?_)
  obtain ⟨rfl, q, s2⟩ := p_18
  have e := e.dots (D := aimD B.1 (fun _ => 0)) q s2
  have sm := sm.tr s2 (by omega) (by omega)
  have e0 := e.1
  have s0 := e.2.1.1
  have d0 := e.2.1.2.1.1
  refine aw_aload_n hX dX9_darken_21 rfl ?_
  refine gt_X9_10 hX dX9_darken_22 (by assumption) (by exact rfl) ?_
  refine gt_X9_66 hX dX9_darken_25 (by assumption) (by exact rfl) ?_
  refine aw_callVp hX RX9 rfl (tX0_dueDots _ _ _ e.2.1.2.1) rfl mf_X0_dueDots mi_X0_dueDots ms_X0_dueDots kl_X9_158 (by assumption) rfl rfl (by decide) (Nat.le_of_ble_eq_true rfl) dX9_darken_28 (by decide) ?_
  exact aw_iret hX rfl rfl rfl rfl dX9_darken_31 (by exact ⟨rfl, e, sm⟩)
theorem tX9_jam (l : Launch) (E : EV) (n : Nat) (H : HB h x B) (c r : Int32) : MX9_jam l E n h [.ref x, .int c, .int r] (PB x h (fJam B c r)) := by
  have e := H
  obtain ⟨e0, ev, ⟨f, vs, hf, hz, eh, hs⟩, et, -⟩ := H
  have h0 := eh.1
  have s0 := ev.1
  have d0 := ev.2.1.1
  refine AM.intro mf_X9_jam (by simp [Value.category]) (Nat.le_of_ble_eq_true rfl) (fun X hl hE hnm hX => ?_)
  subst hl
  subst hE
  show AW X _ _ 0 0 0 [some (.ref x), some (.int c), some (.int r)] []
  refine aw_aload_n hX dX9_jam_0 rfl ?_
  refine gt_X9_10 hX dX9_jam_1 (by assumption) (by exact rfl) ?_
  refine gt_X9_66 hX dX9_jam_4 (by assumption) (by exact rfl) ?_
  refine aw_iload_n hX dX9_jam_7 rfl ?_
  refine aw_iload_n hX dX9_jam_8 rfl ?_
  refine aw_callVp hX RX9 rfl (tX0_hasDot _ _ _ ev.2.1 c r) rfl mf_X0_hasDot mi_X0_hasDot ms_X0_hasDot kl_X9_165 (by assumption) rfl rfl (by decide) (Nat.le_of_ble_eq_true rfl) dX9_jam_9 (by decide) ?_
  refine aw_if_ne hX 19 dX9_jam_12 (by decide) (fun c_12 => ?_) (fun c_12 => ?_)
  · have hv := Decidable.not_not.mp (fun q => c_12 (bI_eq0.mpr q))
    obtain ⟨j, hj, rfl⟩ := rng 40 (by decide) hv.1.1 hv.1.2.2
    obtain ⟨i, hi, rfl⟩ := rng 7 (by decide) hv.2.1 hv.2.2
    have hjc : (nI j).toNatClampNeg = j := nI_clamp (by omega)
    have hic : (nI i).toNatClampNeg = i := nI_clamp (by omega)
    refine aw_aload_n hX dX9_jam_19 rfl ?_
    refine gt_X9_10 hX dX9_jam_20 (by assumption) (by exact rfl) ?_
    refine gt_X9_66 hX dX9_jam_23 (by assumption) (by exact rfl) ?_
    refine aw_iload_n hX dX9_jam_26 rfl ?_
    refine aw_iload_n hX dX9_jam_27 rfl ?_
    refine aw_callVp hX RX9 rfl (tX0_isStuck _ _ _ ev.2.1 hj hv.1.2.1 hi) rfl mf_X0_isStuck mi_X0_isStuck ms_X0_isStuck kl_X9_168 (by assumption) rfl rfl (by decide) (Nat.le_of_ble_eq_true rfl) dX9_jam_28 (by decide) ?_
    refine aw_if_eq hX 38 dX9_jam_31 (by decide) (fun c_31 => ?_) (fun c_31 => ?_)
    · have hst : B.1.1.2.2.2.1 j &&& mk i = 0 := Decidable.not_not.mp (bI_eq0.mp c_31)
      refine aw_aload_n hX dX9_jam_38 rfl ?_
      refine gt_X9_22 hX dX9_jam_39 (by assumption) (by exact rfl) ?_
      refine aw_aload_n hX dX9_jam_42 rfl ?_
      refine gt_X9_10 hX dX9_jam_43 (by assumption) (by exact rfl) ?_
      refine aw_callV0 hX RX9 rfl (tX2_keep _ _ _ eh hf hz ev (by omega)) rfl mf_X2_keep mi_X2_keep ms_X2_keep kl_X9_62 (by assumption) rfl rfl (by decide) (Nat.le_of_ble_eq_true rfl) dX9_jam_46 (by decide) (fun v_46 h_46 p_46 => ?_)
      obtain ⟨rfl, hh, sm⟩ := p_46
      have e := e.kept hf hz hs hh sm
      have sm := Sm.tr (lo := x) (hi := x + 184) Sm.rf sm (by omega) (by omega)
      have e0 := e.1
      have s0 := e.2.1.1
      have d0 := e.2.1.2.1.1
      have m0 := e.2.1.2.2.1.1
      have c0 := e.2.1.2.2.2.1.1
      have n0 := e.2.1.2.2.2.2
      refine aw_aload_n hX dX9_jam_49 rfl ?_
      refine gt_X9_10 hX dX9_jam_50 (by assumption) (by exact rfl) ?_
      refine gt_X9_66 hX dX9_jam_53 (by assumption) (by exact rfl) ?_
      refine aw_iload_n hX dX9_jam_56 rfl ?_
      refine aw_iload_n hX dX9_jam_57 rfl ?_
      refine aw_callV0 hX RX9 rfl (tX0_stick _ _ _ e.2.1.2.1 hj hv.1.2.1 hi) rfl mf_X0_stick mi_X0_stick ms_X0_stick kl_X9_171 (by assumption) rfl rfl (by decide) (Nat.le_of_ble_eq_true rfl) dX9_jam_58 (by decide) (fun v_58 h_58 p_58 => ?_)
      obtain ⟨rfl, q, s2⟩ := p_58
      have e := e.dots (D := (B.1.1.1, B.1.1.2.1, B.1.1.2.2.1, upd B.1.1.2.2.2.1 j (B.1.1.2.2.2.1 j ||| mk i), B.1.1.2.2.2.2)) q s2
      have sm := sm.tr s2 (by omega) (by omega)
      have e0 := e.1
      have s0 := e.2.1.1
      have d0 := e.2.1.2.1.1
      refine aw_aload_n hX dX9_jam_61 rfl ?_
      refine gt_X9_10 hX dX9_jam_62 (by assumption) (by exact rfl) ?_
      refine gt_X9_66 hX dX9_jam_65 (by assumption) (by exact rfl) ?_
      refine aw_iload_n hX dX9_jam_68 rfl ?_
      refine aw_iload_n hX dX9_jam_69 rfl ?_
      refine aw_callVp hX RX9 rfl (tX0_flipsOf _ _ _ e.2.1.2.1 hj hv.1.2.1 hi) rfl mf_X0_flipsOf mi_X0_flipsOf ms_X0_flipsOf kl_X9_175 (by assumption) rfl rfl (by decide) (Nat.le_of_ble_eq_true rfl) dX9_jam_70 (by decide) ?_
      exact aw_iret hX rfl rfl rfl rfl dX9_jam_73 (by rw [fJam, hjc, hic, if_pos hv, if_pos hst]; exact ⟨rfl, e, sm⟩)
    · refine aw_sipush hX (-1002) dX9_jam_34 (by decide) ?_
      exact aw_iret hX rfl rfl rfl rfl dX9_jam_37 (by rw [fJam, hjc, hic, if_pos hv, if_neg (fun q => c_31 (bI_f (fun z => z q)))]; exact ⟨rfl, e, Sm.rf⟩)
  · refine aw_sipush hX (-1001) dX9_jam_15 (by decide) ?_
    exact aw_iret hX rfl rfl rfl rfl dX9_jam_18 (by rw [fJam, if_neg (bI_eq0.mp c_12)]; exact ⟨rfl, e, Sm.rf⟩)
theorem tX9_mend (l : Launch) (E : EV) (n : Nat) (H : HB h x B) (c r : Int32) : MX9_mend l E n h [.ref x, .int c, .int r] (PB x h (fMend B c r)) := by
  have e := H
  obtain ⟨e0, ev, ⟨f, vs, hf, hz, eh, hs⟩, et, -⟩ := H
  have h0 := eh.1
  have s0 := ev.1
  have d0 := ev.2.1.1
  refine AM.intro mf_X9_mend (by simp [Value.category]) (Nat.le_of_ble_eq_true rfl) (fun X hl hE hnm hX => ?_)
  subst hl
  subst hE
  show AW X _ _ 0 0 0 [some (.ref x), some (.int c), some (.int r), none] []
  refine aw_aload_n hX dX9_mend_0 rfl ?_
  refine gt_X9_10 hX dX9_mend_1 (by assumption) (by exact rfl) ?_
  refine gt_X9_66 hX dX9_mend_4 (by assumption) (by exact rfl) ?_
  refine aw_iload_n hX dX9_mend_7 rfl ?_
  refine aw_iload_n hX dX9_mend_8 rfl ?_
  refine aw_callVp hX RX9 rfl (tX0_hasDot _ _ _ ev.2.1 c r) rfl mf_X0_hasDot mi_X0_hasDot ms_X0_hasDot kl_X9_165 (by assumption) rfl rfl (by decide) (Nat.le_of_ble_eq_true rfl) dX9_mend_9 (by decide) ?_
  refine aw_if_ne hX 19 dX9_mend_12 (by decide) (fun c_12 => ?_) (fun c_12 => ?_)
  · have hv := Decidable.not_not.mp (fun q => c_12 (bI_eq0.mpr q))
    obtain ⟨j, hj, rfl⟩ := rng 40 (by decide) hv.1.1 hv.1.2.2
    obtain ⟨i, hi, rfl⟩ := rng 7 (by decide) hv.2.1 hv.2.2
    have hjc : (nI j).toNatClampNeg = j := nI_clamp (by omega)
    have hic : (nI i).toNatClampNeg = i := nI_clamp (by omega)
    refine aw_aload_n hX dX9_mend_19 rfl ?_
    refine gt_X9_22 hX dX9_mend_20 (by assumption) (by exact rfl) ?_
    refine aw_aload_n hX dX9_mend_23 rfl ?_
    refine gt_X9_10 hX dX9_mend_24 (by assumption) (by exact rfl) ?_
    refine aw_callV0 hX RX9 rfl (tX2_keep _ _ _ eh hf hz ev (by omega)) rfl mf_X2_keep mi_X2_keep ms_X2_keep kl_X9_62 (by assumption) rfl rfl (by decide) (Nat.le_of_ble_eq_true rfl) dX9_mend_27 (by decide) (fun v_27 h_27 p_27 => ?_)
    obtain ⟨rfl, hh, sm⟩ := p_27
    have e := e.kept hf hz hs hh sm
    have sm := Sm.tr (lo := x) (hi := x + 184) Sm.rf sm (by omega) (by omega)
    have e0 := e.1
    have s0 := e.2.1.1
    have d0 := e.2.1.2.1.1
    have m0 := e.2.1.2.2.1.1
    have c0 := e.2.1.2.2.2.1.1
    have n0 := e.2.1.2.2.2.2
    refine aw_aload_n hX dX9_mend_30 rfl ?_
    refine gt_X9_10 hX dX9_mend_31 (by assumption) (by exact rfl) ?_
    refine gt_X9_66 hX dX9_mend_34 (by assumption) (by exact rfl) ?_
    refine aw_iload_n hX dX9_mend_37 rfl ?_
    refine aw_iload_n hX dX9_mend_38 rfl ?_
    refine aw_callVp hX RX9 rfl (tX0_isStuck _ _ _ e.2.1.2.1 hj hv.1.2.1 hi) rfl mf_X0_isStuck mi_X0_isStuck ms_X0_isStuck kl_X9_168 (by assumption) rfl rfl (by decide) (Nat.le_of_ble_eq_true rfl) dX9_mend_39 (by decide) ?_
    refine aw_if_eq hX 49 dX9_mend_42 (by decide) (fun c_42 => ?_) (fun c_42 => ?_)
    · have hval : (0:Int32) = bI (¬ B.1.1.2.2.2.1 j &&& mk i = 0) := c_42.symm
      refine aw_iconst hX (0) dX9_mend_49 (by decide) ?_
      refine aw_istore_n hX dX9_mend_50 (Nat.le_of_ble_eq_true rfl) ?_
      refine aw_aload_n hX dX9_mend_51 rfl ?_
      refine gt_X9_10 hX dX9_mend_52 (by assumption) (by exact rfl) ?_
      refine gt_X9_66 hX dX9_mend_55 (by assumption) (by exact rfl) ?_
      refine aw_iload_n hX dX9_mend_58 rfl ?_
      refine aw_iload_n hX dX9_mend_59 rfl ?_
      refine aw_callV0 hX RX9 rfl (tX0_renewDot _ _ _ e.2.1.2.1 hj hv.1.2.1 hi) rfl mf_X0_renewDot mi_X0_renewDot ms_X0_renewDot kl_X9_179 (by assumption) rfl rfl (by decide) (Nat.le_of_ble_eq_true rfl) dX9_mend_60 (by decide) (fun v_60 h_60 p_60 => ?_)
      obtain ⟨rfl, q, s2⟩ := p_60
      have e := e.dots (D := (B.1.1.1, B.1.1.2.1, B.1.1.2.2.1, upd B.1.1.2.2.2.1 j (B.1.1.2.2.2.1 j &&& (mk i ^^^ (-1))), upd B.1.1.2.2.2.2.1 j (B.1.1.2.2.2.2.1 j &&& (mk i ^^^ (-1))), upd B.1.1.2.2.2.2.2 (j * 7 + i) 0)) q s2
      have sm := sm.tr s2 (by omega) (by omega)
      refine aw_iload_n hX dX9_mend_63 rfl ?_
      exact aw_iret hX rfl rfl rfl rfl dX9_mend_64 (by rw [fMend, hjc, hic, if_pos hv]; exact ⟨congrArg (fun z => some (Value.int z)) hval, e, sm⟩)
    · have hval : (1:Int32) = bI (¬ B.1.1.2.2.2.1 j &&& mk i = 0) := (bI_t (Decidable.not_not.mp (fun q => c_42 (bI_eq0.mpr q)))).symm
      refine aw_iconst hX (1) dX9_mend_45 (by decide) ?_
      refine aw_goto hX 50 dX9_mend_46 (by decide) ?_
      refine aw_istore_n hX dX9_mend_50 (Nat.le_of_ble_eq_true rfl) ?_
      refine aw_aload_n hX dX9_mend_51 rfl ?_
      refine gt_X9_10 hX dX9_mend_52 (by assumption) (by exact rfl) ?_
      refine gt_X9_66 hX dX9_mend_55 (by assumption) (by exact rfl) ?_
      refine aw_iload_n hX dX9_mend_58 rfl ?_
      refine aw_iload_n hX dX9_mend_59 rfl ?_
      refine aw_callV0 hX RX9 rfl (tX0_renewDot _ _ _ e.2.1.2.1 hj hv.1.2.1 hi) rfl mf_X0_renewDot mi_X0_renewDot ms_X0_renewDot kl_X9_179 (by assumption) rfl rfl (by decide) (Nat.le_of_ble_eq_true rfl) dX9_mend_60 (by decide) (fun v_60 h_60 p_60 => ?_)
      obtain ⟨rfl, q, s2⟩ := p_60
      have e := e.dots (D := (B.1.1.1, B.1.1.2.1, B.1.1.2.2.1, upd B.1.1.2.2.2.1 j (B.1.1.2.2.2.1 j &&& (mk i ^^^ (-1))), upd B.1.1.2.2.2.2.1 j (B.1.1.2.2.2.2.1 j &&& (mk i ^^^ (-1))), upd B.1.1.2.2.2.2.2 (j * 7 + i) 0)) q s2
      have sm := sm.tr s2 (by omega) (by omega)
      refine aw_iload_n hX dX9_mend_63 rfl ?_
      exact aw_iret hX rfl rfl rfl rfl dX9_mend_64 (by rw [fMend, hjc, hic, if_pos hv]; exact ⟨congrArg (fun z => some (Value.int z)) hval, e, sm⟩)
  · refine aw_sipush hX (-1001) dX9_mend_15 (by decide) ?_
    exact aw_iret hX rfl rfl rfl rfl dX9_mend_18 (by rw [fMend, if_neg (bI_eq0.mp c_12)]; exact ⟨rfl, e, Sm.rf⟩)
theorem tX9_flips (l : Launch) (E : EV) (n : Nat) (H : HB h x B) (c r : Int32) : MX9_flips l E n h [.ref x, .int c, .int r] (PR (.int (fFlips B c r)) h) := by
  obtain ⟨e0, ev, -⟩ := H
  have s0 := ev.1
  have d0 := ev.2.1.1
  refine AM.intro mf_X9_flips (by simp [Value.category]) (Nat.le_of_ble_eq_true rfl) (fun X hl hE hnm hX => ?_)
  subst hl
  subst hE
  show AW X _ _ 0 0 0 [some (.ref x), some (.int c), some (.int r)] []
  refine aw_aload_n hX dX9_flips_0 rfl ?_
  refine gt_X9_10 hX dX9_flips_1 (by assumption) (by exact rfl) ?_
  refine gt_X9_66 hX dX9_flips_4 (by assumption) (by exact rfl) ?_
  refine aw_iload_n hX dX9_flips_7 rfl ?_
  refine aw_iload_n hX dX9_flips_8 rfl ?_
  refine aw_callVp hX RX9 rfl (tX0_hasDot _ _ _ ev.2.1 c r) rfl mf_X0_hasDot mi_X0_hasDot ms_X0_hasDot kl_X9_165 (by assumption) rfl rfl (by decide) (Nat.le_of_ble_eq_true rfl) dX9_flips_9 (by decide) ?_
  refine aw_if_ne hX 19 dX9_flips_12 (by decide) (fun c_12 => ?_) (fun c_12 => ?_)
  · have hv := Decidable.not_not.mp (fun q => c_12 (bI_eq0.mpr q))
    obtain ⟨j, hj, rfl⟩ := rng 40 (by decide) hv.1.1 hv.1.2.2
    obtain ⟨i, hi, rfl⟩ := rng 7 (by decide) hv.2.1 hv.2.2
    have hjc : (nI j).toNatClampNeg = j := nI_clamp (by omega)
    have hic : (nI i).toNatClampNeg = i := nI_clamp (by omega)
    refine aw_aload_n hX dX9_flips_19 rfl ?_
    refine gt_X9_10 hX dX9_flips_20 (by assumption) (by exact rfl) ?_
    refine gt_X9_66 hX dX9_flips_23 (by assumption) (by exact rfl) ?_
    refine aw_iload_n hX dX9_flips_26 rfl ?_
    refine aw_iload_n hX dX9_flips_27 rfl ?_
    refine aw_callVp hX RX9 rfl (tX0_flipsOf _ _ _ ev.2.1 hj hv.1.2.1 hi) rfl mf_X0_flipsOf mi_X0_flipsOf ms_X0_flipsOf kl_X9_175 (by assumption) rfl rfl (by decide) (Nat.le_of_ble_eq_true rfl) dX9_flips_28 (by decide) ?_
    exact aw_iret hX rfl rfl rfl rfl dX9_flips_31 (by rw [fFlips, hjc, hic, if_pos hv]; exact ⟨rfl, rfl⟩)
  · refine aw_sipush hX (-1001) dX9_flips_15 (by decide) ?_
    exact aw_iret hX rfl rfl rfl rfl dX9_flips_18 (by rw [fFlips, if_neg (bI_eq0.mp c_12)]; exact ⟨rfl, rfl⟩)
theorem tX9_column (l : Launch) (E : EV) (n : Nat) (H : HB h x B) (c w : Int32) : MX9_column l E n h [.ref x, .int c, .int w] (PR (.int (fColumn B c w)) h) := by
  obtain ⟨e0, ev, -⟩ := H
  have s0 := ev.1
  obtain ⟨d0, d1, d2, d3, d4, d5⟩ := ev.2.1
  refine AM.intro mf_X9_column (by simp [Value.category]) (Nat.le_of_ble_eq_true rfl) (fun X hl hE hnm hX => ?_)
  subst hl
  subst hE
  show AW X _ _ 0 0 0 [some (.ref x), some (.int c), some (.int w)] []
  refine aw_aload_n hX dX9_column_0 rfl ?_
  refine gt_X9_10 hX dX9_column_1 (by assumption) (by exact rfl) ?_
  refine gt_X9_66 hX dX9_column_4 (by assumption) (by exact rfl) ?_
  refine aw_iload_n hX dX9_column_7 rfl ?_
  refine aw_callVp hX RX9 rfl (tX0_hasColumn _ _ _ ev.2.1 c) rfl mf_X0_hasColumn mi_X0_hasColumn ms_X0_hasColumn kl_X9_209 (by assumption) rfl rfl (by decide) (Nat.le_of_ble_eq_true rfl) dX9_column_8 (by decide) ?_
  refine aw_if_ne hX 18 dX9_column_11 (by decide) (fun c_11 => ?_) (fun c_11 => ?_)
  · have hv := Decidable.not_not.mp (fun q => c_11 (bI_eq0.mpr q))
    obtain ⟨j, hj, rfl⟩ := rng 40 (by decide) hv.1 hv.2.2
    have hjc : (nI j).toNatClampNeg = j := nI_clamp (by omega)
    rw [fColumn, hjc, if_pos hv] at hX
    refine aw_iload_n hX dX9_column_18 rfl ?_
    rcases sw_cases 3 w (by decide) with hw | ⟨k, hk, rfl⟩
    · refine aw_tabOut hX 100 dX9_column_19 hw (by decide) ?_; refine aw_sipush hX (-1001) dX9_column_100 (by decide) ?_; exact aw_iret hX rfl rfl rfl rfl dX9_column_103 (by rw [if_neg (show ¬ w = 0 from swne hw (k := 0) (by decide) (by decide)), if_neg (show ¬ w = 1 from swne hw (k := 1) (by decide) (by decide)), if_neg (show ¬ w = 2 from swne hw (k := 2) (by decide) (by decide)), if_neg (show ¬ w = 3 from swne hw (k := 3) (by decide) (by decide))]; exact ⟨rfl, rfl⟩)
    rcases (show k = 0 ∨ k = 1 ∨ k = 2 ∨ k = 3 by omega) with q | q | q | q <;> subst q
    · (refine aw_tabIn hX 48 dX9_column_19 (by decide) (by decide) rfl (by decide) ?_; refine aw_aload_n hX dX9_column_48 rfl ?_; refine gt_X9_10 hX dX9_column_49 e0 (by exact rfl) ?_; refine gt_X9_66 hX dX9_column_52 s0 (by exact rfl) ?_; refine gt_X9_212 hX dX9_column_55 d0 (by exact rfl) ?_; refine aw_iload_n hX dX9_column_58 rfl ?_; refine aw_ialdN hX j (by assumption) rfl hj (by decide) dX9_column_59 ?_; exact aw_iret hX rfl rfl rfl rfl dX9_column_60 (by rw [if_pos (show nI 0 = 0 from rfl)]; exact ⟨rfl, rfl⟩))
    · (refine aw_tabIn hX 61 dX9_column_19 (by decide) (by decide) rfl (by decide) ?_; refine aw_aload_n hX dX9_column_61 rfl ?_; refine gt_X9_10 hX dX9_column_62 e0 (by exact rfl) ?_; refine gt_X9_66 hX dX9_column_65 s0 (by exact rfl) ?_; refine gt_X9_215 hX dX9_column_68 d0 (by exact rfl) ?_; refine aw_iload_n hX dX9_column_71 rfl ?_; refine aw_ialdN hX j (by assumption) rfl hj (by decide) dX9_column_72 ?_; exact aw_iret hX rfl rfl rfl rfl dX9_column_73 (by rw [if_neg (show ¬ nI 1 = 0 by decide), if_pos (show nI 1 = 1 from rfl)]; exact ⟨rfl, rfl⟩))
    · (refine aw_tabIn hX 74 dX9_column_19 (by decide) (by decide) rfl (by decide) ?_; refine aw_aload_n hX dX9_column_74 rfl ?_; refine gt_X9_10 hX dX9_column_75 e0 (by exact rfl) ?_; refine gt_X9_66 hX dX9_column_78 s0 (by exact rfl) ?_; refine gt_X9_218 hX dX9_column_81 d0 (by exact rfl) ?_; refine aw_iload_n hX dX9_column_84 rfl ?_; refine aw_ialdN hX j (by assumption) rfl hj (by decide) dX9_column_85 ?_; exact aw_iret hX rfl rfl rfl rfl dX9_column_86 (by rw [if_neg (show ¬ nI 2 = 0 by decide), if_neg (show ¬ nI 2 = 1 by decide), if_pos (show nI 2 = 2 from rfl)]; exact ⟨rfl, rfl⟩))
    · (refine aw_tabIn hX 87 dX9_column_19 (by decide) (by decide) rfl (by decide) ?_; refine aw_aload_n hX dX9_column_87 rfl ?_; refine gt_X9_10 hX dX9_column_88 e0 (by exact rfl) ?_; refine gt_X9_66 hX dX9_column_91 s0 (by exact rfl) ?_; refine gt_X9_221 hX dX9_column_94 d0 (by exact rfl) ?_; refine aw_iload_n hX dX9_column_97 rfl ?_; refine aw_ialdN hX j (by assumption) rfl hj (by decide) dX9_column_98 ?_; exact aw_iret hX rfl rfl rfl rfl dX9_column_99 (by rw [if_neg (show ¬ nI 3 = 0 by decide), if_neg (show ¬ nI 3 = 1 by decide), if_neg (show ¬ nI 3 = 2 by decide), if_pos (show nI 3 = 3 from rfl)]; exact ⟨rfl, rfl⟩))
  · refine aw_sipush hX (-1001) dX9_column_14 (by decide) ?_
    exact aw_iret hX rfl rfl rfl rfl dX9_column_17 (by rw [fColumn, if_neg (bI_eq0.mp c_11)]; exact ⟨rfl, rfl⟩)
theorem tX9_letter (l : Launch) (E : EV) (n : Nat) (H : HB h x B) (hS : WS (BS B)) (a i : Int32) : MX9_letter l E n h [.ref x, .int a, .int i] (PR (.int (fLetter B a i)) h) := by
  obtain ⟨e0, ev, -⟩ := H
  have s0 := ev.1
  have c0 := ev.2.2.2.1.1
  refine AM.intro mf_X9_letter (by simp [Value.category]) (Nat.le_of_ble_eq_true rfl) (fun X hl hE hnm hX => ?_)
  subst hl
  subst hE
  show AW X _ _ 0 0 0 [some (.ref x), some (.int a), some (.int i)] []
  refine aw_iload_n hX dX9_letter_0 rfl ?_
  refine aw_if_lt hX 14 dX9_letter_1 (by decide) (fun c_1 => ?_) (fun c_1 => ?_)
  · refine aw_sipush hX (-1001) dX9_letter_14 (by decide) ?_
    exact aw_iret hX rfl rfl rfl rfl dX9_letter_17 (by rw [fLetter, if_neg (by simp only [bI_eq0, Decidable.not_not, Int32.lt_iff_toInt_lt, Int32.le_iff_toInt_le, Int32.reduceToInt] at c_1 ⊢; omega)]; exact ⟨rfl, rfl⟩)
  · refine aw_iload_n hX dX9_letter_4 rfl ?_
    refine aw_bipush hX (26) dX9_letter_5 (by decide) ?_
    refine aw_icmp_ge hX 14 dX9_letter_7 (by decide) (fun c_7 => ?_) (fun c_7 => ?_)
    · refine aw_sipush hX (-1001) dX9_letter_14 (by decide) ?_
      exact aw_iret hX rfl rfl rfl rfl dX9_letter_17 (by rw [fLetter, if_neg (by simp only [bI_eq0, Decidable.not_not, Int32.lt_iff_toInt_lt, Int32.le_iff_toInt_le, Int32.reduceToInt] at c_1 c_7 ⊢; omega)]; exact ⟨rfl, rfl⟩)
    · refine aw_iload_n hX dX9_letter_10 rfl ?_
      refine aw_if_ge hX 18 dX9_letter_11 (by decide) (fun c_11 => ?_) (fun c_11 => ?_)
      · have hv : (0 ≤ a ∧ a < 26) ∧ 0 ≤ i := by (simp only [bI_eq0, Decidable.not_not, Int32.lt_iff_toInt_lt, Int32.le_iff_toInt_le, Int32.reduceToInt] at c_1 c_7 c_11 ⊢; omega)
        obtain ⟨k, hk, rfl⟩ := rng 26 (by decide) hv.1.1 hv.1.2
        have hkc : (nI k).toNatClampNeg = k := nI_clamp (by omega)
        have hw5 := hS.2.1 k hk
        have hwf : wF (BS B).2.1 k = (BS B).2.1 k := by rw [wF, if_neg (by omega)]
        refine aw_iload_n hX dX9_letter_18 rfl ?_
        refine aw_aload_n hX dX9_letter_19 rfl ?_
        refine gt_X9_10 hX dX9_letter_20 (by assumption) (by exact rfl) ?_
        refine gt_X9_100 hX dX9_letter_23 (by assumption) (by exact rfl) ?_
        refine aw_iload_n hX dX9_letter_26 rfl ?_
        refine aw_callVp hX RX9 rfl (tX7_widthOf _ _ _ ev.2.2.2.1 (c := k) (by omega)) rfl mf_X7_widthOf mi_X7_widthOf ms_X7_widthOf kl_X9_104 (by assumption) rfl rfl (by decide) (Nat.le_of_ble_eq_true rfl) dX9_letter_27 (by decide) ?_
        rw [hwf]
        refine aw_icmp_lt hX 37 dX9_letter_30 (by decide) (fun c_30 => ?_) (fun c_30 => ?_)
        · obtain ⟨j, hj, rfl⟩ := rng ((BS B).2.1 k) (by omega) hv.2 c_30
          have hjc : (nI j).toNatClampNeg = j := nI_clamp (by omega)
          refine aw_aload_n hX dX9_letter_37 rfl ?_
          refine gt_X9_10 hX dX9_letter_38 (by assumption) (by exact rfl) ?_
          refine gt_X9_100 hX dX9_letter_41 (by assumption) (by exact rfl) ?_
          refine aw_iload_n hX dX9_letter_44 rfl ?_
          refine aw_iload_n hX dX9_letter_45 rfl ?_
          refine aw_callVp hX RX9 rfl (tX7_columnOf _ _ _ ev.2.2.2.1 (c := k) (i := j) (by omega) (by rw [hwf]; exact hj) (by rw [hwf]; exact hw5)) rfl mf_X7_columnOf mi_X7_columnOf ms_X7_columnOf kl_X9_224 (by assumption) rfl rfl (by decide) (Nat.le_of_ble_eq_true rfl) dX9_letter_46 (by decide) ?_
          exact aw_iret hX rfl rfl rfl rfl dX9_letter_49 (by rw [fLetter, hkc, hjc, if_pos hv, if_pos c_30]; exact ⟨congrArg (fun z => some (Value.int z)) (by rw [cF, if_neg (by omega)]), rfl⟩)
        · refine aw_sipush hX (-1009) dX9_letter_33 (by decide) ?_
          exact aw_iret hX rfl rfl rfl rfl dX9_letter_36 (by rw [fLetter, hkc, if_pos hv, if_neg c_30]; exact ⟨rfl, rfl⟩)
      · refine aw_sipush hX (-1001) dX9_letter_14 (by decide) ?_
        exact aw_iret hX rfl rfl rfl rfl dX9_letter_17 (by rw [fLetter, if_neg (by simp only [bI_eq0, Decidable.not_not, Int32.lt_iff_toInt_lt, Int32.le_iff_toInt_le, Int32.reduceToInt] at c_1 c_7 c_11 ⊢; omega)]; exact ⟨rfl, rfl⟩)
theorem tX9_message (l : Launch) (E : EV) (n : Nat) (H : HB h x B) (hS : WS (BS B)) (a i : Int32) : MX9_message l E n h [.ref x, .int a, .int i] (PR (.int (fMessage B a i)) h) := by
  obtain ⟨e0, ev, -⟩ := H
  have s0 := ev.1
  have c0 := ev.2.2.2.1.1
  have hK8 := hS.1
  refine AM.intro mf_X9_message (by simp [Value.category]) (Nat.le_of_ble_eq_true rfl) (fun X hl hE hnm hX => ?_)
  subst hl
  subst hE
  show AW X _ _ 0 0 0 [some (.ref x), some (.int a), some (.int i)] []
  refine aw_aload_n hX dX9_message_0 rfl ?_
  refine gt_X9_10 hX dX9_message_1 (by assumption) (by exact rfl) ?_
  refine gt_X9_100 hX dX9_message_4 (by assumption) (by exact rfl) ?_
  refine aw_iload_n hX dX9_message_7 rfl ?_
  refine aw_callVp hX RX9 rfl (tX7_hasMessage _ _ _ ev.2.2.2.1 a) rfl mf_X7_hasMessage mi_X7_hasMessage ms_X7_hasMessage kl_X9_123 (by assumption) rfl rfl (by decide) (Nat.le_of_ble_eq_true rfl) dX9_message_8 (by decide) ?_
  refine aw_if_eq hX 18 dX9_message_11 (by decide) (fun c_11 => ?_) (fun c_11 => ?_)
  · refine aw_sipush hX (-1001) dX9_message_18 (by decide) ?_
    exact aw_iret hX rfl rfl rfl rfl dX9_message_21 (by rw [fMessage, if_neg (fun q => bI_eq0.mp c_11 q.1)]; exact ⟨rfl, rfl⟩)
  · refine aw_iload_n hX dX9_message_14 rfl ?_
    refine aw_if_ge hX 22 dX9_message_15 (by decide) (fun c_15 => ?_) (fun c_15 => ?_)
    · have hm := Decidable.not_not.mp (fun q => c_11 (bI_eq0.mpr q))
      have hv := And.intro hm c_15
      obtain ⟨k, hk, rfl⟩ := rng (BS B).2.2.2.2 (by omega) hm.1 hm.2.1
      have hkc : (nI k).toNatClampNeg = k := nI_clamp (by omega)
      obtain ⟨g1, g2, g3⟩ := hS.2.2 k hk
      refine aw_iload_n hX dX9_message_22 rfl ?_
      refine aw_aload_n hX dX9_message_23 rfl ?_
      refine gt_X9_10 hX dX9_message_24 (by assumption) (by exact rfl) ?_
      refine gt_X9_100 hX dX9_message_27 (by assumption) (by exact rfl) ?_
      refine aw_iload_n hX dX9_message_30 rfl ?_
      refine aw_callVp hX RX9 rfl (tX7_lengthOf _ _ _ ev.2.2.2.1 hk hK8) rfl mf_X7_lengthOf mi_X7_lengthOf ms_X7_lengthOf kl_X9_227 (by assumption) rfl rfl (by decide) (Nat.le_of_ble_eq_true rfl) dX9_message_31 (by decide) ?_
      refine aw_icmp_lt hX 41 dX9_message_34 (by decide) (fun c_34 => ?_) (fun c_34 => ?_)
      · obtain ⟨j, hj, rfl⟩ := rng ((BS B).2.2.2.1 k) (by omega) hv.2 c_34
        have hjc : (nI j).toNatClampNeg = j := nI_clamp (by omega)
        refine aw_aload_n hX dX9_message_41 rfl ?_
        refine gt_X9_10 hX dX9_message_42 (by assumption) (by exact rfl) ?_
        refine gt_X9_100 hX dX9_message_45 (by assumption) (by exact rfl) ?_
        refine aw_iload_n hX dX9_message_48 rfl ?_
        refine aw_iload_n hX dX9_message_49 rfl ?_
        refine aw_callVp hX RX9 rfl (tX7_characterOf _ _ _ ev.2.2.2.1 hk hK8 (i := j) (by omega)) rfl mf_X7_characterOf mi_X7_characterOf ms_X7_characterOf kl_X9_230 (by assumption) rfl rfl (by decide) (Nat.le_of_ble_eq_true rfl) dX9_message_50 (by decide) ?_
        exact aw_iret hX rfl rfl rfl rfl dX9_message_53 (by rw [fMessage, hkc, hjc, if_pos hv, if_pos c_34]; exact ⟨rfl, rfl⟩)
      · refine aw_sipush hX (-1009) dX9_message_37 (by decide) ?_
        exact aw_iret hX rfl rfl rfl rfl dX9_message_40 (by rw [fMessage, hkc, if_pos hv, if_neg c_34]; exact ⟨rfl, rfl⟩)
    · refine aw_sipush hX (-1001) dX9_message_18 (by decide) ?_
      exact aw_iret hX rfl rfl rfl rfl dX9_message_21 (by rw [fMessage, if_neg (fun q => c_15 q.2)]; exact ⟨rfl, rfl⟩)
theorem tX9_strip (l : Launch) (E : EV) (n : Nat) (H : HB h x B) (hS : WS (BS B)) (a : Int32) : MX9_strip l E n h [.ref x, .int a] (PR (.int (fStrip B a)) h) := by
  obtain ⟨e0, ev, -⟩ := H
  have s0 := ev.1
  have c0 := ev.2.2.2.1.1
  have hK8 := hS.1
  refine AM.intro mf_X9_strip (by simp [Value.category]) (Nat.le_of_ble_eq_true rfl) (fun X hl hE hnm hX => ?_)
  subst hl
  subst hE
  show AW X _ _ 0 0 0 [some (.ref x), some (.int a)] []
  refine aw_aload_n hX dX9_strip_0 rfl ?_
  refine gt_X9_10 hX dX9_strip_1 (by assumption) (by exact rfl) ?_
  refine gt_X9_100 hX dX9_strip_4 (by assumption) (by exact rfl) ?_
  refine aw_iload_n hX dX9_strip_7 rfl ?_
  refine aw_callVp hX RX9 rfl (tX7_hasMessage _ _ _ ev.2.2.2.1 a) rfl mf_X7_hasMessage mi_X7_hasMessage ms_X7_hasMessage kl_X9_123 (by assumption) rfl rfl (by decide) (Nat.le_of_ble_eq_true rfl) dX9_strip_8 (by decide) ?_
  refine aw_if_ne hX 18 dX9_strip_11 (by decide) (fun c_11 => ?_) (fun c_11 => ?_)
  · have hv := Decidable.not_not.mp (fun q => c_11 (bI_eq0.mpr q))
    obtain ⟨k, hk, rfl⟩ := rng (BS B).2.2.2.2 (by omega) hv.1 hv.2.1
    have hkc : (nI k).toNatClampNeg = k := nI_clamp (by omega)
    obtain ⟨g1, g2, g3⟩ := hS.2.2 k hk
    refine aw_aload_n hX dX9_strip_18 rfl ?_
    refine gt_X9_10 hX dX9_strip_19 (by assumption) (by exact rfl) ?_
    refine gt_X9_100 hX dX9_strip_22 (by assumption) (by exact rfl) ?_
    refine aw_iload_n hX dX9_strip_25 rfl ?_
    refine aw_callVp hX RX9 rfl (tX7_stripColumns _ _ _ ev.2.2.2.1 hk hK8 g1 g2 g3) rfl mf_X7_stripColumns mi_X7_stripColumns ms_X7_stripColumns kl_X9_233 (by assumption) rfl rfl (by decide) (Nat.le_of_ble_eq_true rfl) dX9_strip_26 (by decide) ?_
    exact aw_iret hX rfl rfl rfl rfl dX9_strip_29 (by rw [fStrip, hkc, if_pos hv]; exact ⟨rfl, rfl⟩)
  · refine aw_sipush hX (-1001) dX9_strip_14 (by decide) ?_
    exact aw_iret hX rfl rfl rfl rfl dX9_strip_17 (by rw [fStrip, if_neg (bI_eq0.mp c_11)]; exact ⟨rfl, rfl⟩)
theorem tX9_power (l : Launch) (E : EV) (n : Nat) (H : HB h x B) (hT : B.1.2.1.2.2.2.1 < 2 ^ 30) (a : Int32) : MX9_power l E n h [.ref x, .int a] (PR (.int (fPower B a)) h) := by
  obtain ⟨e0, ev, -⟩ := H
  have s0 := ev.1
  have m0 := ev.2.2.1.1
  refine AM.intro mf_X9_power (by simp [Value.category]) (Nat.le_of_ble_eq_true rfl) (fun X hl hE hnm hX => ?_)
  subst hl
  subst hE
  show AW X _ _ 0 0 0 [some (.ref x), some (.int a)] []
  refine aw_iload_n hX dX9_power_0 rfl ?_
  refine aw_iconst hX (1) dX9_power_1 (by decide) ?_
  refine aw_icmp_lt hX 11 dX9_power_2 (by decide) (fun c_2 => ?_) (fun c_2 => ?_)
  · refine aw_sipush hX (-1001) dX9_power_11 (by decide) ?_
    exact aw_iret hX rfl rfl rfl rfl dX9_power_14 (by rw [fPower, if_neg (by simp only [bI_eq0, Decidable.not_not, Int32.lt_iff_toInt_lt, Int32.le_iff_toInt_le, Int32.reduceToInt] at c_2 ⊢; omega)]; exact ⟨rfl, rfl⟩)
  · refine aw_iload_n hX dX9_power_5 rfl ?_
    refine aw_bipush hX (20) dX9_power_6 (by decide) ?_
    refine aw_icmp_le hX 15 dX9_power_8 (by decide) (fun c_8 => ?_) (fun c_8 => ?_)
    · have hv : 1 ≤ a ∧ a ≤ 20 := by (simp only [bI_eq0, Decidable.not_not, Int32.lt_iff_toInt_lt, Int32.le_iff_toInt_le, Int32.reduceToInt] at c_2 c_8 ⊢; omega)
      obtain ⟨k, hk, rfl⟩ := rng 256 (by decide) (x := a) (by (have q := hv; revert q; simp only [i32_27, i32_256, i32_m1, bI_eq0, Decidable.not_not, Int32.lt_iff_toInt_lt, Int32.le_iff_toInt_le, Int32.reduceToInt, ← Int32.toInt_inj] at c_2 c_8 ⊢; omega)) (by (have q := hv; revert q; simp only [i32_27, i32_256, i32_m1, bI_eq0, Decidable.not_not, Int32.lt_iff_toInt_lt, Int32.le_iff_toInt_le, Int32.reduceToInt, ← Int32.toInt_inj] at c_2 c_8 ⊢; omega))
      have hkc : (nI k).toNatClampNeg = k := nI_clamp (by omega)
      refine aw_iload_n hX dX9_power_15 rfl ?_
      refine aw_aload_n hX dX9_power_16 rfl ?_
      refine gt_X9_10 hX dX9_power_17 (by assumption) (by exact rfl) ?_
      refine gt_X9_79 hX dX9_power_20 (by assumption) (by exact rfl) ?_
      refine gt_X9_203 hX dX9_power_23 (by assumption) (by exact rfl) ?_
      refine aw_icmp_le hX 33 dX9_power_26 (by decide) (fun c_26 => ?_) (fun c_26 => ?_)
      · refine aw_aload_n hX dX9_power_33 rfl ?_
        refine gt_X9_10 hX dX9_power_34 (by assumption) (by exact rfl) ?_
        refine gt_X9_79 hX dX9_power_37 (by assumption) (by exact rfl) ?_
        refine aw_iload_n hX dX9_power_40 rfl ?_
        refine aw_callVp hX RX9 rfl (tX3_powerOf _ _ _ ev.2.2.1 hT (g := k) ((nI_leI (a := k) (b := B.1.2.1.2.2.2.1) (by omega) (by omega)).mp c_26)) rfl mf_X3_powerOf mi_X3_powerOf ms_X3_powerOf kl_X9_240 (by assumption) rfl rfl (by decide) (Nat.le_of_ble_eq_true rfl) dX9_power_41 (by decide) ?_
        exact aw_iret hX rfl rfl rfl rfl dX9_power_44 (by rw [fPower, hkc, if_pos hv, if_pos c_26]; exact ⟨rfl, rfl⟩)
      · refine aw_sipush hX (-1009) dX9_power_29 (by decide) ?_
        exact aw_iret hX rfl rfl rfl rfl dX9_power_32 (by rw [fPower, hkc, if_pos hv, if_neg c_26]; exact ⟨rfl, rfl⟩)
    · refine aw_sipush hX (-1001) dX9_power_11 (by decide) ?_
      exact aw_iret hX rfl rfl rfl rfl dX9_power_14 (by rw [fPower, if_neg (by simp only [bI_eq0, Decidable.not_not, Int32.lt_iff_toInt_lt, Int32.le_iff_toInt_le, Int32.reduceToInt] at c_2 c_8 ⊢; omega)]; exact ⟨rfl, rfl⟩)
end C2
