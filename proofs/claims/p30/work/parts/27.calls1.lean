/-! settings and messages -/
theorem i32_m1 : ((-1 : Int32)).toInt = -1 := by decide
theorem i32_m2 : ((-2 : Int32)).toInt = -2 := by decide
theorem i32_27 : (nI 27).toInt = 27 := by decide
theorem i32_256 : (nI 256).toInt = 256 := by decide
theorem rng (N : Nat) (hN : N < 2 ^ 31) {x : Int32} (h0 : 0 ≤ x) (h1 : x < nI N) : ∃ k, k < N ∧ x = nI k := by
  obtain ⟨j, hj, e⟩ := nI_of (Int32.not_lt.mpr h0)
  subst e
  exact ⟨j, (nI_ltI hj hN).mp h1, rfl⟩
def leF (k : Nat) : Int32 := ([2, 0, 1] : List Int32).getD k 0
def moF (k : Nat) : Int32 := ([50, 2, 200] : List Int32).getD k 0
def addC (S : SV) (c : Nat) : SV := (S.1, S.2.1, updN S.2.2.1 ((S.2.2.2.2 - 1) * 12 + S.2.2.2.1 (S.2.2.2.2 - 1)) c, updN S.2.2.2.1 (S.2.2.2.2 - 1) (S.2.2.2.1 (S.2.2.2.2 - 1) + 1), S.2.2.2.2)
def stM (S : SV) : SV := (S.1, S.2.1, S.2.2.1, updN S.2.2.2.1 S.2.2.2.2 0, S.2.2.2.2 + 1)
abbrev BS (B : FV) : SV := B.1.2.2.1
abbrev setS (B : FV) (S : SV) : FV := ((B.1.1, B.1.2.1, S, B.1.2.2.2), keepF B.2.1 B.1, B.2.2)
abbrev setD (B : FV) (D : DV) : FV := ((D, B.1.2), keepF B.2.1 B.1, B.2.2)
def fSetNumber (B : FV) (w y : Int32) : Int32 × FV :=
  if (0 ≤ w ∧ w < 3) ∧ leF w.toNatClampNeg ≤ y ∧ y ≤ moF w.toNatClampNeg then (B.1.2.2.2 w.toNatClampNeg, (B.1.1, B.1.2.1, B.1.2.2.1, upd B.1.2.2.2 w.toNatClampNeg y), keepF B.2.1 B.1, B.2.2) else (-1001, B)
def fSetColumn (B : FV) (l i b : Int32) : Int32 × FV :=
  if (0 ≤ l ∧ l < 26) ∧ (0 ≤ b ∧ b ≤ 127) ∧ (0 ≤ i ∧ i < 5) ∧ i ≤ nI ((BS B).2.1 l.toNatClampNeg) then
    (nI (max ((BS B).2.1 l.toNatClampNeg) (i.toNatClampNeg + 1)), setS B (upd (BS B).1 (l.toNatClampNeg * 5 + i.toNatClampNeg) b, updN (BS B).2.1 l.toNatClampNeg (max ((BS B).2.1 l.toNatClampNeg) (i.toNatClampNeg + 1)), (BS B).2.2))
  else (-1001, B)
def fAddMessage (B : FV) (f s : Int32) : Int32 × FV :=
  if (0 ≤ f ∧ f ≤ 26) ∧ -1 ≤ s ∧ s ≤ 26 then
    (if (BS B).2.2.2.2 < 8 then (nI (BS B).2.2.2.2, setS B (if s = -1 then addC (stM (BS B)) f.toNatClampNeg else addC (addC (stM (BS B)) f.toNatClampNeg) s.toNatClampNeg)) else (-1003, B))
  else (-1001, B)
def fRemoveMessage (B : FV) (m : Int32) : Int32 × FV :=
  if 0 ≤ m ∧ m < nI (BS B).2.2.2.2 ∧ m < 8 then (nI ((BS B).2.2.2.2 - 1), setS B ((BS B).1, (BS B).2.1, shN (m.toNatClampNeg * 12) 84 12 (BS B).2.2.1, shN m.toNatClampNeg 7 1 (BS B).2.2.2.1, (BS B).2.2.2.2 - 1)) else (-1001, B)
def fAppend (B : FV) (c : Int32) : Int32 × FV :=
  if 0 ≤ c ∧ c ≤ 255 then (if B.2.2.2 < 120 then (nI (B.2.2.2 + 1), (B.1, B.2.1, updN B.2.2.1 B.2.2.2 c.toNatClampNeg, B.2.2.2 + 1)) else (-1003, B)) else (-1001, B)
def fClear (B : FV) : Int32 × FV := (nI B.2.2.2, (B.1, B.2.1, B.2.2.1, 0))
section C1
variable {h : HP} {x : Nat} {B : FV}
theorem HB.numb (H : HB h x B) (f : IF) : HB (hset h (x + 1 + 14) (cI 3 f)) x ((B.1.1, B.1.2.1, B.1.2.2.1, f), B.2) :=
  H.now (H.2.1.nums f) (Sm.rf.set (by omega) (by omega))
theorem tX9_setNumber (l : Launch) (E : EV) (n : Nat) (H : HB h x B) (w y : Int32) : MX9_setNumber l E n h [.ref x, .int w, .int y] (PB x h (fSetNumber B w y)) := by
  have e := H
  obtain ⟨e0, ev, ⟨f, vs, hf, hz, eh, hs⟩, et, -⟩ := H
  have h0 := eh.1
  have s0 := ev.1
  refine AM.intro mf_X9_setNumber (by simp [Value.category]) (Nat.le_of_ble_eq_true rfl) (fun X hl hE hnm hX => ?_)
  subst hl
  subst hE
  show AW X _ _ 0 0 0 [some (.ref x), some (.int w), some (.int y), none] []
  refine aw_aload_n hX dX9_setNumber_0 rfl ?_
  refine gt_X9_10 hX dX9_setNumber_1 (by assumption) (by exact rfl) ?_
  refine aw_iload_n hX dX9_setNumber_4 rfl ?_
  refine aw_callVp hX RX9 rfl (tX8_hasNumber _ _ _ ev w) rfl mf_X8_hasNumber mi_X8_hasNumber ms_X8_hasNumber kl_X9_87 (by assumption) rfl rfl (by decide) (Nat.le_of_ble_eq_true rfl) dX9_setNumber_5 (by decide) ?_
  refine aw_if_eq hX 29 dX9_setNumber_8 (by decide) (fun c_8 => ?_) (fun c_8 => ?_)
  · refine aw_sipush hX (-1001) dX9_setNumber_29 (by decide) ?_
    exact aw_iret hX rfl rfl rfl rfl dX9_setNumber_32 (by rw [fSetNumber, if_neg (fun q => bI_eq0.mp c_8 q.1)]; exact ⟨rfl, e, Sm.rf⟩)
  · have hw := Decidable.not_not.mp (fun q => c_8 (bI_eq0.mpr q))
    obtain ⟨k, hk, rfl⟩ := rng 3 (by decide) hw.1 hw.2
    have hkc : (nI k).toNatClampNeg = k := nI_clamp (by omega)
    refine aw_iload_n hX dX9_setNumber_11 rfl ?_
    refine aw_gets hX (a := 1) (nm := "LEAST_NUMBERS") (by decide) kf_X9_91 dX9_setNumber_12 ?_
    refine aw_iload_n hX dX9_setNumber_15 rfl ?_
    refine aw_roaldN hX k (by decide) rfl hk (Nat.le_of_ble_eq_true rfl) dX9_setNumber_16 ?_
    refine aw_icmp_lt hX 29 dX9_setNumber_17 (by decide) (fun c_17 => ?_) (fun c_17 => ?_)
    · refine aw_sipush hX (-1001) dX9_setNumber_29 (by decide) ?_
      exact aw_iret hX rfl rfl rfl rfl dX9_setNumber_32 (by rw [fSetNumber, hkc, if_neg (fun q => Int32.not_le.mpr c_17 q.2.1)]; exact ⟨rfl, e, Sm.rf⟩)
    · refine aw_iload_n hX dX9_setNumber_20 rfl ?_
      refine aw_gets hX (a := 2) (nm := "MOST_NUMBERS") (by decide) kf_X9_94 dX9_setNumber_21 ?_
      refine aw_iload_n hX dX9_setNumber_24 rfl ?_
      refine aw_roaldN hX k (by decide) rfl hk (Nat.le_of_ble_eq_true rfl) dX9_setNumber_25 ?_
      refine aw_icmp_le hX 33 dX9_setNumber_26 (by decide) (fun c_26 => ?_) (fun c_26 => ?_)
      · have hv : (0 ≤ nI k ∧ nI k < 3) ∧ leF k ≤ y ∧ y ≤ moF k := ⟨hw, Int32.not_lt.mp c_17, c_26⟩
        refine aw_aload_n hX dX9_setNumber_33 rfl ?_
        refine gt_X9_22 hX dX9_setNumber_34 (by assumption) (by exact rfl) ?_
        refine aw_aload_n hX dX9_setNumber_37 rfl ?_
        refine gt_X9_10 hX dX9_setNumber_38 (by assumption) (by exact rfl) ?_
        refine aw_callV0 hX RX9 rfl (tX2_keep _ _ _ eh hf hz ev (by omega)) rfl mf_X2_keep mi_X2_keep ms_X2_keep kl_X9_62 (by assumption) rfl rfl (by decide) (Nat.le_of_ble_eq_true rfl) dX9_setNumber_41 (by decide) (fun v_41 h_41 p_41 => ?_)
        obtain ⟨rfl, hh, sm⟩ := p_41
        have e := e.kept hf hz hs hh sm
        have sm := Sm.tr (lo := x) (hi := x + 184) Sm.rf sm (by omega) (by omega)
        have e0 := e.1
        have s0 := e.2.1.1
        have d0 := e.2.1.2.1.1
        have m0 := e.2.1.2.2.1.1
        have c0 := e.2.1.2.2.2.1.1
        have n0 := e.2.1.2.2.2.2
        refine aw_aload_n hX dX9_setNumber_44 rfl ?_
        refine gt_X9_10 hX dX9_setNumber_45 (by assumption) (by exact rfl) ?_
        refine gt_X9_97 hX dX9_setNumber_48 (by assumption) (by exact rfl) ?_
        refine aw_iload_n hX dX9_setNumber_51 rfl ?_
        refine aw_ialdN hX (k) (by assumption) rfl hk (by first | decide | assumption) dX9_setNumber_52 ?_
        refine aw_istore_n hX dX9_setNumber_53 (Nat.le_of_ble_eq_true rfl) ?_
        refine aw_aload_n hX dX9_setNumber_54 rfl ?_
        refine gt_X9_10 hX dX9_setNumber_55 (by assumption) (by exact rfl) ?_
        refine gt_X9_97 hX dX9_setNumber_58 (by assumption) (by exact rfl) ?_
        refine aw_iload_n hX dX9_setNumber_61 rfl ?_
        refine aw_iload_n hX dX9_setNumber_62 rfl ?_
        refine aw_iastN hX (k) (by assumption) rfl hk (by first | decide | assumption) dX9_setNumber_63 ?_
        have e := e.numb (upd B.1.2.2.2 k y)
        refine aw_iload_n hX dX9_setNumber_64 rfl ?_
        exact aw_iret hX rfl rfl rfl rfl dX9_setNumber_65 (by rw [fSetNumber, hkc, if_pos hv]; exact ⟨rfl, e, sm.set (by omega) (by omega)⟩)
      · refine aw_sipush hX (-1001) dX9_setNumber_29 (by decide) ?_
        exact aw_iret hX rfl rfl rfl rfl dX9_setNumber_32 (by rw [fSetNumber, hkc, if_neg (fun q => c_26 q.2.2)]; exact ⟨rfl, e, Sm.rf⟩)
theorem tX9_setColumn (l : Launch) (E : EV) (n : Nat) (H : HB h x B) (hS : WS (BS B)) (a i b : Int32) : MX9_setColumn l E n h [.ref x, .int a, .int i, .int b] (PB x h (fSetColumn B a i b)) := by
  have e := H
  obtain ⟨e0, ev, ⟨f, vs, hf, hz, eh, hs⟩, et, -⟩ := H
  have h0 := eh.1
  have s0 := ev.1
  have c0 := ev.2.2.2.1.1
  refine AM.intro mf_X9_setColumn (by simp [Value.category]) (Nat.le_of_ble_eq_true rfl) (fun X hl hE hnm hX => ?_)
  subst hl
  subst hE
  show AW X _ _ 0 0 0 [some (.ref x), some (.int a), some (.int i), some (.int b)] []
  refine aw_iload_n hX dX9_setColumn_0 rfl ?_
  refine aw_if_lt hX 20 dX9_setColumn_1 (by decide) (fun c_1 => ?_) (fun c_1 => ?_)
  · refine aw_sipush hX (-1001) dX9_setColumn_20 (by decide) ?_
    exact aw_iret hX rfl rfl rfl rfl dX9_setColumn_23 (by rw [fSetColumn, if_neg (fun q => by (have q1 := q.1; have q2 := q.2.1; revert q1 q2; simp only [bI_eq0, Decidable.not_not, Int32.lt_iff_toInt_lt, Int32.le_iff_toInt_le, Int32.reduceToInt] at c_1 ⊢; omega))]; exact ⟨rfl, e, Sm.rf⟩)
  · refine aw_iload_n hX dX9_setColumn_4 rfl ?_
    refine aw_bipush hX (26) dX9_setColumn_5 (by decide) ?_
    refine aw_icmp_ge hX 20 dX9_setColumn_7 (by decide) (fun c_7 => ?_) (fun c_7 => ?_)
    · refine aw_sipush hX (-1001) dX9_setColumn_20 (by decide) ?_
      exact aw_iret hX rfl rfl rfl rfl dX9_setColumn_23 (by rw [fSetColumn, if_neg (fun q => by (have q1 := q.1; have q2 := q.2.1; revert q1 q2; simp only [bI_eq0, Decidable.not_not, Int32.lt_iff_toInt_lt, Int32.le_iff_toInt_le, Int32.reduceToInt] at c_1 c_7 ⊢; omega))]; exact ⟨rfl, e, Sm.rf⟩)
    · refine aw_iload_n hX dX9_setColumn_10 rfl ?_
      refine aw_if_lt hX 20 dX9_setColumn_11 (by decide) (fun c_11 => ?_) (fun c_11 => ?_)
      · refine aw_sipush hX (-1001) dX9_setColumn_20 (by decide) ?_
        exact aw_iret hX rfl rfl rfl rfl dX9_setColumn_23 (by rw [fSetColumn, if_neg (fun q => by (have q1 := q.1; have q2 := q.2.1; revert q1 q2; simp only [bI_eq0, Decidable.not_not, Int32.lt_iff_toInt_lt, Int32.le_iff_toInt_le, Int32.reduceToInt] at c_1 c_7 c_11 ⊢; omega))]; exact ⟨rfl, e, Sm.rf⟩)
      · refine aw_iload_n hX dX9_setColumn_14 rfl ?_
        refine aw_bipush hX (127) dX9_setColumn_15 (by decide) ?_
        refine aw_icmp_le hX 24 dX9_setColumn_17 (by decide) (fun c_17 => ?_) (fun c_17 => ?_)
        · have hv1 : (0 ≤ a ∧ a < 26) ∧ 0 ≤ b ∧ b ≤ 127 := by (simp only [bI_eq0, Decidable.not_not, Int32.lt_iff_toInt_lt, Int32.le_iff_toInt_le, Int32.reduceToInt] at c_1 c_7 c_11 c_17 ⊢; omega)
          obtain ⟨k, hk, rfl⟩ := rng 26 (by decide) hv1.1.1 hv1.1.2
          have hkc : (nI k).toNatClampNeg = k := nI_clamp (by omega)
          have hw5 := hS.2.1 k hk
          have hwf : wF (BS B).2.1 k = (BS B).2.1 k := by rw [wF, if_neg (by omega)]
          refine aw_iload_n hX dX9_setColumn_24 rfl ?_
          refine aw_if_lt hX 48 dX9_setColumn_25 (by decide) (fun c_25 => ?_) (fun c_25 => ?_)
          · refine aw_sipush hX (-1001) dX9_setColumn_48 (by decide) ?_
            exact aw_iret hX rfl rfl rfl rfl dX9_setColumn_51 (by rw [fSetColumn, if_neg (fun q => Int32.not_lt.mpr q.2.2.1.1 c_25)]; exact ⟨rfl, e, Sm.rf⟩)
          · refine aw_iload_n hX dX9_setColumn_28 rfl ?_
            refine aw_iconst hX (5) dX9_setColumn_29 (by decide) ?_
            refine aw_icmp_ge hX 48 dX9_setColumn_30 (by decide) (fun c_30 => ?_) (fun c_30 => ?_)
            · refine aw_sipush hX (-1001) dX9_setColumn_48 (by decide) ?_
              exact aw_iret hX rfl rfl rfl rfl dX9_setColumn_51 (by rw [fSetColumn, if_neg (fun q => Int32.not_le.mpr q.2.2.1.2 c_30)]; exact ⟨rfl, e, Sm.rf⟩)
            · refine aw_iload_n hX dX9_setColumn_33 rfl ?_
              refine aw_aload_n hX dX9_setColumn_34 rfl ?_
              refine gt_X9_10 hX dX9_setColumn_35 (by assumption) (by exact rfl) ?_
              refine gt_X9_100 hX dX9_setColumn_38 (by assumption) (by exact rfl) ?_
              refine aw_iload_n hX dX9_setColumn_41 rfl ?_
              refine aw_callVp hX RX9 rfl (tX7_widthOf _ _ _ ev.2.2.2.1 (c := k) (by omega)) rfl mf_X7_widthOf mi_X7_widthOf ms_X7_widthOf kl_X9_104 (by assumption) rfl rfl (by decide) (Nat.le_of_ble_eq_true rfl) dX9_setColumn_42 (by decide) ?_
              rw [hwf]
              refine aw_icmp_le hX 52 dX9_setColumn_45 (by decide) (fun c_45 => ?_) (fun c_45 => ?_)
              · obtain ⟨j, hj, rfl⟩ := rng 5 (by decide) (Int32.not_lt.mp c_25) (Int32.not_le.mp c_30)
                have hjc : (nI j).toNatClampNeg = j := nI_clamp (by omega)
                have hv := And.intro hv1.1 (And.intro hv1.2 (And.intro (And.intro (Int32.not_lt.mp c_25) (Int32.not_le.mp c_30)) c_45))
                have hjw := (nI_leI (a := j) (b := (BS B).2.1 k) (by omega) (by omega)).mp c_45
                refine aw_aload_n hX dX9_setColumn_52 rfl ?_
                refine gt_X9_22 hX dX9_setColumn_53 (by assumption) (by exact rfl) ?_
                refine aw_aload_n hX dX9_setColumn_56 rfl ?_
                refine gt_X9_10 hX dX9_setColumn_57 (by assumption) (by exact rfl) ?_
                refine aw_callV0 hX RX9 rfl (tX2_keep _ _ _ eh hf hz ev (by omega)) rfl mf_X2_keep mi_X2_keep ms_X2_keep kl_X9_62 (by assumption) rfl rfl (by decide) (Nat.le_of_ble_eq_true rfl) dX9_setColumn_60 (by decide) (fun v_60 h_60 p_60 => ?_)
                obtain ⟨rfl, hh, sm⟩ := p_60
                have e := e.kept hf hz hs hh sm
                have sm := Sm.tr (lo := x) (hi := x + 184) Sm.rf sm (by omega) (by omega)
                have e0 := e.1
                have s0 := e.2.1.1
                have d0 := e.2.1.2.1.1
                have m0 := e.2.1.2.2.1.1
                have c0 := e.2.1.2.2.2.1.1
                have n0 := e.2.1.2.2.2.2
                refine aw_aload_n hX dX9_setColumn_63 rfl ?_
                refine gt_X9_10 hX dX9_setColumn_64 (by assumption) (by exact rfl) ?_
                refine gt_X9_100 hX dX9_setColumn_67 (by assumption) (by exact rfl) ?_
                refine aw_iload_n hX dX9_setColumn_70 rfl ?_
                refine aw_iload_n hX dX9_setColumn_71 rfl ?_
                refine aw_iload_n hX dX9_setColumn_72 rfl ?_
                refine aw_callV0 hX RX9 rfl (tX7_putColumn _ _ _ e.2.1.2.2.2.1 hk hj hw5 b) rfl mf_X7_putColumn mi_X7_putColumn ms_X7_putColumn kl_X9_110 (by assumption) rfl rfl (by decide) (Nat.le_of_ble_eq_true rfl) dX9_setColumn_73 (by decide) (fun v_73 h_73 p_73 => ?_)
                obtain ⟨rfl, q, s2⟩ := p_73
                have e := e.script (S := (upd (BS B).1 (k * 5 + j) b, updN (BS B).2.1 k (max ((BS B).2.1 k) (j + 1)), (BS B).2.2)) q s2
                have sm := sm.tr s2 (by omega) (by omega)
                have e0 := e.1
                have s0 := e.2.1.1
                have c0 := e.2.1.2.2.2.1.1
                refine aw_aload_n hX dX9_setColumn_76 rfl ?_
                refine gt_X9_10 hX dX9_setColumn_77 (by assumption) (by exact rfl) ?_
                refine gt_X9_100 hX dX9_setColumn_80 (by assumption) (by exact rfl) ?_
                refine aw_iload_n hX dX9_setColumn_83 rfl ?_
                refine aw_callVp hX RX9 rfl (tX7_widthOf _ _ _ e.2.1.2.2.2.1 (c := k) (by omega)) rfl mf_X7_widthOf mi_X7_widthOf ms_X7_widthOf kl_X9_104 (by assumption) rfl rfl (by decide) (Nat.le_of_ble_eq_true rfl) dX9_setColumn_84 (by decide) ?_
                refine AW.top (y := nI (max ((BS B).2.1 k) (j + 1))) (congrArg nI (by rw [wF, if_neg (by omega)]; exact updN_eq _ _ _)) ?_
                exact aw_iret hX rfl rfl rfl rfl dX9_setColumn_87 (by rw [fSetColumn, hkc, hjc, if_pos hv]; exact ⟨rfl, e, sm⟩)
              · refine aw_sipush hX (-1001) dX9_setColumn_48 (by decide) ?_
                exact aw_iret hX rfl rfl rfl rfl dX9_setColumn_51 (by rw [fSetColumn, hkc, if_neg (fun q => c_45 q.2.2.2)]; exact ⟨rfl, e, Sm.rf⟩)
        · refine aw_sipush hX (-1001) dX9_setColumn_20 (by decide) ?_
          exact aw_iret hX rfl rfl rfl rfl dX9_setColumn_23 (by rw [fSetColumn, if_neg (fun q => by (have q1 := q.1; have q2 := q.2.1; revert q1 q2; simp only [bI_eq0, Decidable.not_not, Int32.lt_iff_toInt_lt, Int32.le_iff_toInt_le, Int32.reduceToInt] at c_1 c_7 c_11 c_17 ⊢; omega))]; exact ⟨rfl, e, Sm.rf⟩)
theorem tX9_addMessage (l : Launch) (E : EV) (n : Nat) (H : HB h x B) (hS : WS (BS B)) (a b : Int32) : MX9_addMessage l E n h [.ref x, .int a, .int b] (PB x h (fAddMessage B a b)) := by
  have e := H
  obtain ⟨e0, ev, ⟨f, vs, hf, hz, eh, hs⟩, et, -⟩ := H
  have h0 := eh.1
  have s0 := ev.1
  have c0 := ev.2.2.2.1.1
  have hK8 := hS.1
  refine AM.intro mf_X9_addMessage (by simp [Value.category]) (Nat.le_of_ble_eq_true rfl) (fun X hl hE hnm hX => ?_)
  subst hl
  subst hE
  show AW X _ _ 0 0 0 [some (.ref x), some (.int a), some (.int b)] []
  refine aw_iload_n hX dX9_addMessage_0 rfl ?_
  refine aw_if_lt hX 21 dX9_addMessage_1 (by decide) (fun c_1 => ?_) (fun c_1 => ?_)
  · refine aw_sipush hX (-1001) dX9_addMessage_21 (by decide) ?_
    exact aw_iret hX rfl rfl rfl rfl dX9_addMessage_24 (by rw [fAddMessage, if_neg (by simp only [i32_27, i32_256, i32_m1, bI_eq0, Decidable.not_not, Int32.lt_iff_toInt_lt, Int32.le_iff_toInt_le, Int32.reduceToInt, ← Int32.toInt_inj] at c_1 ⊢; omega)]; exact ⟨rfl, e, Sm.rf⟩)
  · refine aw_iload_n hX dX9_addMessage_4 rfl ?_
    refine aw_bipush hX (26) dX9_addMessage_5 (by decide) ?_
    refine aw_icmp_gt hX 21 dX9_addMessage_7 (by decide) (fun c_7 => ?_) (fun c_7 => ?_)
    · refine aw_sipush hX (-1001) dX9_addMessage_21 (by decide) ?_
      exact aw_iret hX rfl rfl rfl rfl dX9_addMessage_24 (by rw [fAddMessage, if_neg (by simp only [i32_27, i32_256, i32_m1, bI_eq0, Decidable.not_not, Int32.lt_iff_toInt_lt, Int32.le_iff_toInt_le, Int32.reduceToInt, ← Int32.toInt_inj] at c_1 c_7 ⊢; omega)]; exact ⟨rfl, e, Sm.rf⟩)
    · refine aw_iload_n hX dX9_addMessage_10 rfl ?_
      refine aw_iconst hX (-1) dX9_addMessage_11 (by decide) ?_
      refine aw_icmp_lt hX 21 dX9_addMessage_12 (by decide) (fun c_12 => ?_) (fun c_12 => ?_)
      · refine aw_sipush hX (-1001) dX9_addMessage_21 (by decide) ?_
        exact aw_iret hX rfl rfl rfl rfl dX9_addMessage_24 (by rw [fAddMessage, if_neg (by simp only [i32_27, i32_256, i32_m1, bI_eq0, Decidable.not_not, Int32.lt_iff_toInt_lt, Int32.le_iff_toInt_le, Int32.reduceToInt, ← Int32.toInt_inj] at c_1 c_7 c_12 ⊢; omega)]; exact ⟨rfl, e, Sm.rf⟩)
      · refine aw_iload_n hX dX9_addMessage_15 rfl ?_
        refine aw_bipush hX (26) dX9_addMessage_16 (by decide) ?_
        refine aw_icmp_le hX 25 dX9_addMessage_18 (by decide) (fun c_18 => ?_) (fun c_18 => ?_)
        · have hv : (0 ≤ a ∧ a ≤ 26) ∧ -1 ≤ b ∧ b ≤ 26 := by (simp only [i32_27, i32_256, i32_m1, bI_eq0, Decidable.not_not, Int32.lt_iff_toInt_lt, Int32.le_iff_toInt_le, Int32.reduceToInt, ← Int32.toInt_inj] at c_1 c_7 c_12 c_18 ⊢; omega)
          obtain ⟨k, hk, rfl⟩ := rng 27 (by decide) hv.1.1 (by (have q := hv.1.2; revert q; simp only [i32_27, i32_256, i32_m1, bI_eq0, Decidable.not_not, Int32.lt_iff_toInt_lt, Int32.le_iff_toInt_le, Int32.reduceToInt, ← Int32.toInt_inj] at c_1 c_7 c_12 c_18 ⊢; omega))
          have hkc : (nI k).toNatClampNeg = k := nI_clamp (by omega)
          refine aw_aload_n hX dX9_addMessage_25 rfl ?_
          refine gt_X9_10 hX dX9_addMessage_26 (by assumption) (by exact rfl) ?_
          refine gt_X9_100 hX dX9_addMessage_29 (by assumption) (by exact rfl) ?_
          refine gt_X9_114 hX dX9_addMessage_32 (by assumption) (by exact rfl) ?_
          refine aw_bipush hX (8) dX9_addMessage_35 (by decide) ?_
          refine aw_icmp_lt hX 44 dX9_addMessage_37 (by decide) (fun c_37 => ?_) (fun c_37 => ?_)
          · have n_37 : (BS B).2.2.2.2 < 8 := (nI_ltI (a := (BS B).2.2.2.2) (b := 8) (by omega) (by omega)).mp c_37
            refine aw_aload_n hX dX9_addMessage_44 rfl ?_
            refine gt_X9_22 hX dX9_addMessage_45 (by assumption) (by exact rfl) ?_
            refine aw_aload_n hX dX9_addMessage_48 rfl ?_
            refine gt_X9_10 hX dX9_addMessage_49 (by assumption) (by exact rfl) ?_
            refine aw_callV0 hX RX9 rfl (tX2_keep _ _ _ eh hf hz ev (by omega)) rfl mf_X2_keep mi_X2_keep ms_X2_keep kl_X9_62 (by assumption) rfl rfl (by decide) (Nat.le_of_ble_eq_true rfl) dX9_addMessage_52 (by decide) (fun v_52 h_52 p_52 => ?_)
            obtain ⟨rfl, hh, sm⟩ := p_52
            have e := e.kept hf hz hs hh sm
            have sm := Sm.tr (lo := x) (hi := x + 184) Sm.rf sm (by omega) (by omega)
            have e0 := e.1
            have s0 := e.2.1.1
            have d0 := e.2.1.2.1.1
            have m0 := e.2.1.2.2.1.1
            have c0 := e.2.1.2.2.2.1.1
            have n0 := e.2.1.2.2.2.2
            refine aw_aload_n hX dX9_addMessage_55 rfl ?_
            refine gt_X9_10 hX dX9_addMessage_56 (by assumption) (by exact rfl) ?_
            refine gt_X9_100 hX dX9_addMessage_59 (by assumption) (by exact rfl) ?_
            refine aw_callV0 hX RX9 rfl (tX7_startMessage _ _ _ e.2.1.2.2.2.1 n_37) rfl mf_X7_startMessage mi_X7_startMessage ms_X7_startMessage kl_X9_117 (by assumption) rfl rfl (by decide) (Nat.le_of_ble_eq_true rfl) dX9_addMessage_62 (by decide) (fun v_62 h_62 p_62 => ?_)
            obtain ⟨rfl, q, s2⟩ := p_62
            have e := e.script (S := stM (BS B)) q s2
            have sm := sm.tr s2 (by omega) (by omega)
            have e0 := e.1
            have s0 := e.2.1.1
            have c0 := e.2.1.2.2.2.1.1
            have hl0 : updN (BS B).2.2.2.1 (BS B).2.2.2.2 0 (BS B).2.2.2.2 = 0 := updN_eq _ _ _
            refine aw_aload_n hX dX9_addMessage_65 rfl ?_
            refine gt_X9_10 hX dX9_addMessage_66 (by assumption) (by exact rfl) ?_
            refine gt_X9_100 hX dX9_addMessage_69 (by assumption) (by exact rfl) ?_
            refine aw_iload_n hX dX9_addMessage_72 rfl ?_
            refine aw_callV0 hX RX9 rfl (tX7_addCharacter _ _ _ e.2.1.2.2.2.1 n_37 (by show updN (BS B).2.2.2.1 (BS B).2.2.2.2 0 (BS B).2.2.2.2 < 12; omega) k) rfl mf_X7_addCharacter mi_X7_addCharacter ms_X7_addCharacter kl_X9_120 (by assumption) rfl rfl (by decide) (Nat.le_of_ble_eq_true rfl) dX9_addMessage_73 (by decide) (fun v_73 h_73 p_73 => ?_)
            obtain ⟨rfl, q, s2⟩ := p_73
            have e := e.script (S := addC (stM (BS B)) k) q s2
            have sm := sm.tr s2 (by omega) (by omega)
            have e0 := e.1
            have s0 := e.2.1.1
            have c0 := e.2.1.2.2.2.1.1
            refine aw_iload_n hX dX9_addMessage_76 rfl ?_
            refine aw_iconst hX (-1) dX9_addMessage_77 (by decide) ?_
            refine aw_icmp_eq hX 92 dX9_addMessage_78 (by decide) (fun c_78 => ?_) (fun c_78 => ?_)
            · refine aw_aload_n hX dX9_addMessage_92 rfl ?_
              refine gt_X9_10 hX dX9_addMessage_93 (by assumption) (by exact rfl) ?_
              refine gt_X9_100 hX dX9_addMessage_96 (by assumption) (by exact rfl) ?_
              refine gt_X9_114 hX dX9_addMessage_99 (by assumption) (by exact rfl) ?_
              refine aw_iconst hX (1) dX9_addMessage_102 (by decide) ?_
              refine aw_isub hX dX9_addMessage_103 ?_
              refine AW.top (y := nI (BS B).2.2.2.2) (nI_pred _) ?_
              exact aw_iret hX rfl rfl rfl rfl dX9_addMessage_104 (by first | (rw [fAddMessage, hkc, if_pos hv, if_pos n_37, if_pos c_78]; exact ⟨rfl, e, sm⟩) | (rw [fAddMessage, hkc, hkc2, if_pos hv, if_pos n_37, if_neg c_78]; exact ⟨rfl, e, sm⟩))
            · obtain ⟨k2, hk2, rfl⟩ := rng 27 (by decide) (x := b) (by (have q := hv.2; revert q; simp only [i32_27, i32_256, i32_m1, bI_eq0, Decidable.not_not, Int32.lt_iff_toInt_lt, Int32.le_iff_toInt_le, Int32.reduceToInt, ← Int32.toInt_inj] at c_1 c_7 c_12 c_18 c_37 c_78 ⊢; omega)) (by (have q := hv.2; revert q; simp only [i32_27, i32_256, i32_m1, bI_eq0, Decidable.not_not, Int32.lt_iff_toInt_lt, Int32.le_iff_toInt_le, Int32.reduceToInt, ← Int32.toInt_inj] at c_1 c_7 c_12 c_18 c_37 c_78 ⊢; omega))
              have hkc2 : (nI k2).toNatClampNeg = k2 := nI_clamp (by omega)
              have hl1 : updN (updN (BS B).2.2.2.1 (BS B).2.2.2.2 0) (BS B).2.2.2.2 (updN (BS B).2.2.2.1 (BS B).2.2.2.2 0 (BS B).2.2.2.2 + 1) (BS B).2.2.2.2 = 1 := by rw [updN_eq, updN_eq]
              refine aw_aload_n hX dX9_addMessage_81 rfl ?_
              refine gt_X9_10 hX dX9_addMessage_82 (by assumption) (by exact rfl) ?_
              refine gt_X9_100 hX dX9_addMessage_85 (by assumption) (by exact rfl) ?_
              refine aw_iload_n hX dX9_addMessage_88 rfl ?_
              refine aw_callV0 hX RX9 rfl (tX7_addCharacter _ _ _ e.2.1.2.2.2.1 n_37 (by show updN (updN (BS B).2.2.2.1 (BS B).2.2.2.2 0) (BS B).2.2.2.2 (updN (BS B).2.2.2.1 (BS B).2.2.2.2 0 (BS B).2.2.2.2 + 1) (BS B).2.2.2.2 < 12; omega) k2) rfl mf_X7_addCharacter mi_X7_addCharacter ms_X7_addCharacter kl_X9_120 (by assumption) rfl rfl (by decide) (Nat.le_of_ble_eq_true rfl) dX9_addMessage_89 (by decide) (fun v_89 h_89 p_89 => ?_)
              obtain ⟨rfl, q, s2⟩ := p_89
              have e := e.script (S := addC (addC (stM (BS B)) k) k2) q s2
              have sm := sm.tr s2 (by omega) (by omega)
              have e0 := e.1
              have s0 := e.2.1.1
              have c0 := e.2.1.2.2.2.1.1
              refine aw_aload_n hX dX9_addMessage_92 rfl ?_
              refine gt_X9_10 hX dX9_addMessage_93 (by assumption) (by exact rfl) ?_
              refine gt_X9_100 hX dX9_addMessage_96 (by assumption) (by exact rfl) ?_
              refine gt_X9_114 hX dX9_addMessage_99 (by assumption) (by exact rfl) ?_
              refine aw_iconst hX (1) dX9_addMessage_102 (by decide) ?_
              refine aw_isub hX dX9_addMessage_103 ?_
              refine AW.top (y := nI (BS B).2.2.2.2) (nI_pred _) ?_
              exact aw_iret hX rfl rfl rfl rfl dX9_addMessage_104 (by first | (rw [fAddMessage, hkc, if_pos hv, if_pos n_37, if_pos c_78]; exact ⟨rfl, e, sm⟩) | (rw [fAddMessage, hkc, hkc2, if_pos hv, if_pos n_37, if_neg c_78]; exact ⟨rfl, e, sm⟩))
          · have n_37 : ¬ (BS B).2.2.2.2 < 8 := fun q_ => c_37 ((nI_ltI (a := (BS B).2.2.2.2) (b := 8) (by omega) (by omega)).mpr q_)
            refine aw_sipush hX (-1003) dX9_addMessage_40 (by decide) ?_
            exact aw_iret hX rfl rfl rfl rfl dX9_addMessage_43 (by rw [fAddMessage, if_pos hv, if_neg n_37]; exact ⟨rfl, e, Sm.rf⟩)
        · refine aw_sipush hX (-1001) dX9_addMessage_21 (by decide) ?_
          exact aw_iret hX rfl rfl rfl rfl dX9_addMessage_24 (by rw [fAddMessage, if_neg (by simp only [i32_27, i32_256, i32_m1, bI_eq0, Decidable.not_not, Int32.lt_iff_toInt_lt, Int32.le_iff_toInt_le, Int32.reduceToInt, ← Int32.toInt_inj] at c_1 c_7 c_12 c_18 ⊢; omega)]; exact ⟨rfl, e, Sm.rf⟩)
theorem tX9_removeMessage (l : Launch) (E : EV) (n : Nat) (H : HB h x B) (hS : WS (BS B)) (m : Int32) : MX9_removeMessage l E n h [.ref x, .int m] (PB x h (fRemoveMessage B m)) := by
  have e := H
  obtain ⟨e0, ev, ⟨f, vs, hf, hz, eh, hs⟩, et, -⟩ := H
  have h0 := eh.1
  have s0 := ev.1
  have c0 := ev.2.2.2.1.1
  have hK8 := hS.1
  refine AM.intro mf_X9_removeMessage (by simp [Value.category]) (Nat.le_of_ble_eq_true rfl) (fun X hl hE hnm hX => ?_)
  subst hl
  subst hE
  show AW X _ _ 0 0 0 [some (.ref x), some (.int m)] []
  refine aw_aload_n hX dX9_removeMessage_0 rfl ?_
  refine gt_X9_10 hX dX9_removeMessage_1 (by assumption) (by exact rfl) ?_
  refine gt_X9_100 hX dX9_removeMessage_4 (by assumption) (by exact rfl) ?_
  refine aw_iload_n hX dX9_removeMessage_7 rfl ?_
  refine aw_callVp hX RX9 rfl (tX7_hasMessage _ _ _ ev.2.2.2.1 m) rfl mf_X7_hasMessage mi_X7_hasMessage ms_X7_hasMessage kl_X9_123 (by assumption) rfl rfl (by decide) (Nat.le_of_ble_eq_true rfl) dX9_removeMessage_8 (by decide) ?_
  refine aw_if_ne hX 18 dX9_removeMessage_11 (by decide) (fun c_11 => ?_) (fun c_11 => ?_)
  · have hv := Decidable.not_not.mp (fun q => c_11 (bI_eq0.mpr q))
    obtain ⟨k, hk, rfl⟩ := rng (BS B).2.2.2.2 (by omega) hv.1 hv.2.1
    have hkc : (nI k).toNatClampNeg = k := nI_clamp (by omega)
    obtain ⟨K, hK⟩ : ∃ K, (BS B).2.2.2.2 = K + 1 := ⟨(BS B).2.2.2.2 - 1, by omega⟩
    refine aw_aload_n hX dX9_removeMessage_18 rfl ?_
    refine gt_X9_22 hX dX9_removeMessage_19 (by assumption) (by exact rfl) ?_
    refine aw_aload_n hX dX9_removeMessage_22 rfl ?_
    refine gt_X9_10 hX dX9_removeMessage_23 (by assumption) (by exact rfl) ?_
    refine aw_callV0 hX RX9 rfl (tX2_keep _ _ _ eh hf hz ev (by omega)) rfl mf_X2_keep mi_X2_keep ms_X2_keep kl_X9_62 (by assumption) rfl rfl (by decide) (Nat.le_of_ble_eq_true rfl) dX9_removeMessage_26 (by decide) (fun v_26 h_26 p_26 => ?_)
    obtain ⟨rfl, hh, sm⟩ := p_26
    have e := e.kept hf hz hs hh sm
    have sm := Sm.tr (lo := x) (hi := x + 184) Sm.rf sm (by omega) (by omega)
    have e0 := e.1
    have s0 := e.2.1.1
    have d0 := e.2.1.2.1.1
    have m0 := e.2.1.2.2.1.1
    have c0 := e.2.1.2.2.2.1.1
    have n0 := e.2.1.2.2.2.2
    refine aw_aload_n hX dX9_removeMessage_29 rfl ?_
    refine gt_X9_10 hX dX9_removeMessage_30 (by assumption) (by exact rfl) ?_
    refine gt_X9_100 hX dX9_removeMessage_33 (by assumption) (by exact rfl) ?_
    refine aw_iload_n hX dX9_removeMessage_36 rfl ?_
    have ec : HScript h_26 (x + 1 + 9) (BS B).1 (BS B).2.1 (BS B).2.2.1 (BS B).2.2.2.1 (K + 1) := by rw [← hK]; exact e.2.1.2.2.2.1
    refine aw_callV0 hX RX9 rfl (tX7_dropMessage _ _ _ ec (by omega) (m := k) (by omega)) rfl mf_X7_dropMessage mi_X7_dropMessage ms_X7_dropMessage kl_X9_126 (by assumption) rfl rfl (by decide) (Nat.le_of_ble_eq_true rfl) dX9_removeMessage_37 (by decide) (fun v_37 h_37 p_37 => ?_)
    obtain ⟨rfl, q, s2⟩ := p_37
    have e := e.script (S := ((BS B).1, (BS B).2.1, shN (k * 12) 84 12 (BS B).2.2.1, shN k 7 1 (BS B).2.2.2.1, (BS B).2.2.2.2 - 1)) (by rw [hK]; exact q) s2
    have sm := sm.tr s2 (by omega) (by omega)
    have e0 := e.1
    have s0 := e.2.1.1
    have c0 := e.2.1.2.2.2.1.1
    refine aw_aload_n hX dX9_removeMessage_40 rfl ?_
    refine gt_X9_10 hX dX9_removeMessage_41 (by assumption) (by exact rfl) ?_
    refine gt_X9_100 hX dX9_removeMessage_44 (by assumption) (by exact rfl) ?_
    refine gt_X9_114 hX dX9_removeMessage_47 (by assumption) (by exact rfl) ?_
    exact aw_iret hX rfl rfl rfl rfl dX9_removeMessage_50 (by rw [fRemoveMessage, hkc, if_pos hv]; exact ⟨rfl, e, sm⟩)
  · refine aw_sipush hX (-1001) dX9_removeMessage_14 (by decide) ?_
    exact aw_iret hX rfl rfl rfl rfl dX9_removeMessage_17 (by rw [fRemoveMessage, if_neg (bI_eq0.mp c_11)]; exact ⟨rfl, e, Sm.rf⟩)
end C1
