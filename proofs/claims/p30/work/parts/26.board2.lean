/-! FlipBoard's calls: what each answers, and the board behind it -/
def keepF (Hs : List PV) (v : PV) : List PV := if Hs.length < 6 then Hs ++ [v] else Hs.tail ++ [v]
theorem keepL {h : HP} {q f : Nat} {vs : Nat → PV} {Hs : List PV} {v : PV} (hf : f < 6) (hz : Hs.length ≤ 6) (hs : ∀ i, i < Hs.length → Hs[i]? = some (vs ((f + i) % 6))) (H : HHist h q (if Hs.length < 6 then f else (f + 1) % 6) (if Hs.length < 6 then Hs.length + 1 else 6) (va_up vs ((f + Hs.length) % 6) v)) : HistL h q (keepF Hs v) := by
  unfold keepF
  by_cases h6 : Hs.length < 6
  · rw [if_pos h6] at H ⊢
    rw [if_pos h6] at H
    refine ⟨f, _, hf, by rw [List.length_append]; show Hs.length + 1 ≤ 6; omega, by rw [List.length_append]; exact H, fun i hi => ?_⟩
    rw [List.length_append] at hi
    have hi' : i < Hs.length + 1 := hi
    by_cases e : i = Hs.length
    · subst e
      rw [List.getElem?_append_right (Nat.le_refl _), Nat.sub_self, va_up, if_pos rfl]
      rfl
    · rw [List.getElem?_append_left (by omega), hs i (by omega), va_up, if_neg (by omega)]
  · rw [if_neg h6] at H ⊢
    rw [if_neg h6] at H
    have h6' : Hs.length = 6 := by omega
    refine ⟨(f + 1) % 6, _, Nat.mod_lt _ (by decide), by rw [List.length_append, List.length_tail]; show Hs.length - 1 + 1 ≤ 6; omega, by rw [List.length_append, List.length_tail, show Hs.length - 1 + [v].length = 6 by show Hs.length - 1 + 1 = 6; omega]; exact H, fun i hi => ?_⟩
    rw [List.length_append, List.length_tail] at hi
    have hi' : i < Hs.length - 1 + 1 := hi
    by_cases e : i = 5
    · subst e
      rw [List.getElem?_append_right (by rw [List.length_tail]; omega), List.length_tail, h6', va_up, if_pos (by omega)]
      rfl
    · rw [List.getElem?_append_left (by rw [List.length_tail]; omega), List.getElem?_tail, hs (i + 1) (by omega), va_up, if_neg (by omega)]
      congr 2
      omega
abbrev PB (x : Nat) (h : HP) (q : Int32 × FV) : Option Value → HP → Prop := fun r h' => r = some (.int q.1) ∧ HB h' x q.2 ∧ Sm x (x + 184) h h'
section B2
variable {h : HP} {x : Nat} {B : FV}
theorem HB.now {h' : HP} (H : HB h x B) {v' : PV} (H' : HState h' (x + 1) v') (s : Sm (x + 1) (x + 1 + 15) h h') : HB h' x (v', B.2) := by
  obtain ⟨h1, h2, h3, h4, tr, R, O, g1, g2, g3, g4, g5, g6⟩ := H
  exact ⟨(s.at (by omega)).trans h1, H', h3.sm s (by omega), (s.at (by omega)).trans h4, tr, R, O, g1.sm s (by omega), g2.sm s (by omega), g3.sm s (by omega), g4.sm s (by omega), g5.sm s (by omega), g6⟩
theorem HB.hist {h' : HP} (H : HB h x B) {Hs' : List PV} (H' : HistL h' (x + 31) Hs') (s : Sm (x + 31) (x + 31 + 92) h h') : HB h' x (B.1, Hs', B.2.2) := by
  obtain ⟨h1, h2, h3, h4, tr, R, O, g1, g2, g3, g4, g5, g6⟩ := H
  exact ⟨(s.at (by omega)).trans h1, h2.sm s (by omega), H', (s.at (by omega)).trans h4, tr, R, O, g1.sm s (by omega), g2.sm s (by omega), g3.sm s (by omega), g4.sm s (by omega), g5.sm s (by omega), g6⟩
theorem HB.dots {h' : HP} (H : HB h x B) {D : DV} (H' : HD h' (x + 1 + 1) D) (s : Sm (x + 1 + 1) (x + 1 + 1 + 6) h h') : HB h' x ((D, B.1.2), B.2) :=
  H.now (H.2.1.dots H' s) (Sm.tr (lo := x + 1) (hi := x + 1 + 15) Sm.rf s (by omega) (by omega))
theorem HB.script {h' : HP} (H : HB h x B) {S : SV} (H' : HS h' (x + 1 + 9) S) (s : Sm (x + 1 + 9) (x + 1 + 9 + 5) h h') : HB h' x ((B.1.1, B.1.2.1, S, B.1.2.2.2), B.2) :=
  H.now (H.2.1.script H' s) (Sm.tr (lo := x + 1) (hi := x + 1 + 15) Sm.rf s (by omega) (by omega))
theorem HB.meter {h' : HP} (H : HB h x B) {M : MV} (H' : HM h' (x + 1 + 7) M) (s : Sm (x + 1 + 7) (x + 1 + 7 + 2) h h') : HB h' x ((B.1.1, M, B.1.2.2), B.2) :=
  H.now (H.2.1.meter H' s) (Sm.tr (lo := x + 1) (hi := x + 1 + 15) Sm.rf s (by omega) (by omega))
/-- the part of the board that is used again and again has changed -/
theorem HB.scr {h' : HP} (H : HB h x B) {tr : PV} {R : RV} {O : OV} {lo hi : Nat} (H' : HX h' x tr R O) (s : Sm lo hi h h') (hq : x + 123 ≤ lo) (hq2 : hi ≤ x + 183) : HB h' x B := by
  obtain ⟨h1, h2, h3, h4, -⟩ := H
  exact ⟨(s.at (by omega)).trans h1, h2.sm s (by omega), h3.sm s (by omega), (s.at (by omega)).trans h4, tr, R, O, H'⟩
theorem HB.txt (H : HB h x B) (tl : Nat) : HB (hset h x (oB x tl)) x (B.1, B.2.1, B.2.2.1, tl) := by
  obtain ⟨h1, h2, h3, h4, tr, R, O, g1, g2, g3, g4, g5, g6⟩ := H
  have s : Sm x (x + 1) h (hset h x (oB x tl)) := Sm.rf.set (Nat.le_refl _) (Nat.lt_succ_self _)
  exact ⟨hset_eq _ _ _, h2.sm s (by omega), h3.sm s (by omega), (s.at (by omega)).trans h4, tr, R, O, g1.sm s (by omega), g2.sm s (by omega), g3.sm s (by omega), g4.sm s (by omega), g5.sm s (by omega), g6⟩
/-- a state is saved -/
theorem HB.kept {h' : HP} (H : HB h x B) {f : Nat} {vs : Nat → PV} (hf : f < 6) (hz : B.2.1.length ≤ 6) (hs : ∀ i, i < B.2.1.length → B.2.1[i]? = some (vs ((f + i) % 6))) (H' : HHist h' (x + 31) (if B.2.1.length < 6 then f else (f + 1) % 6) (if B.2.1.length < 6 then B.2.1.length + 1 else 6) (va_up vs ((f + B.2.1.length) % 6) B.1)) (s : Sm (x + 31) (x + 31 + 92) h h') : HB h' x (B.1, keepF B.2.1 B.1, B.2.2) :=
  H.hist (keepL hf hz hs H') s
def fBegin (B : FV) (c : Int32) : Int32 × FV := if 6 ≤ c ∧ c ≤ 40 then (B.1.1.1, ((c, fun _ => 0, fun _ => 0, fun _ => 0, fun _ => 0, fun _ => 0), (0, 0, 0, 0, fun _ => 0), B.1.2.2), keepF B.2.1 B.1, B.2.2) else (-1001, B)
theorem tX9_begin (l : Launch) (E : EV) (n : Nat) (H : HB h x B) (c : Int32) : MX9_begin l E n h [.ref x, .int c] (PB x h (fBegin B c)) := by
  have e := H
  obtain ⟨e0, ev, ⟨f, vs, hf, hz, eh, hs⟩, et, -⟩ := H
  have h0 := eh.1
  refine AM.intro mf_X9_begin (by simp [Value.category]) (Nat.le_of_ble_eq_true rfl) (fun X hl hE hnm hX => ?_)
  subst hl
  subst hE
  show AW X _ _ 0 0 0 [some (.ref x), some (.int c), none] []
  refine aw_iload_n hX dX9_begin_0 rfl ?_
  refine aw_bipush hX (6) dX9_begin_1 (by decide) ?_
  refine aw_icmp_lt hX 12 dX9_begin_3 (by decide) (fun c_3 => ?_) (fun c_3 => ?_)
  · refine aw_sipush hX (-1001) dX9_begin_12 (by decide) ?_
    exact aw_iret hX rfl rfl rfl rfl dX9_begin_15 (by rw [fBegin, if_neg (by simp only [bI_eq0, Decidable.not_not, Int32.lt_iff_toInt_lt, Int32.le_iff_toInt_le, Int32.reduceToInt] at c_3 ⊢; omega)]; exact ⟨rfl, e, Sm.rf⟩)
  · refine aw_iload_n hX dX9_begin_6 rfl ?_
    refine aw_bipush hX (40) dX9_begin_7 (by decide) ?_
    refine aw_icmp_le hX 16 dX9_begin_9 (by decide) (fun c_9 => ?_) (fun c_9 => ?_)
    · have hv : 6 ≤ c ∧ c ≤ 40 := by (simp only [bI_eq0, Decidable.not_not, Int32.lt_iff_toInt_lt, Int32.le_iff_toInt_le, Int32.reduceToInt] at c_3 c_9 ⊢; omega)
      refine aw_aload_n hX dX9_begin_16 rfl ?_
      refine gt_X9_22 hX dX9_begin_17 (by assumption) (by exact rfl) ?_
      refine aw_aload_n hX dX9_begin_20 rfl ?_
      refine gt_X9_10 hX dX9_begin_21 (by assumption) (by exact rfl) ?_
      refine aw_callV0 hX RX9 rfl (tX2_keep _ _ _ eh hf hz ev (by omega)) rfl mf_X2_keep mi_X2_keep ms_X2_keep kl_X9_62 (by assumption) rfl rfl (by decide) (Nat.le_of_ble_eq_true rfl) dX9_begin_24 (by decide) (fun v_24 h_24 p_24 => ?_)
      obtain ⟨rfl, hh, sm⟩ := p_24
      have e := e.kept hf hz hs hh sm
      have sm := Sm.tr (lo := x) (hi := x + 184) Sm.rf sm (by omega) (by omega)
      have e0 := e.1
      have s0 := e.2.1.1
      have d0 := e.2.1.2.1.1
      have m0 := e.2.1.2.2.1.1
      have c0 := e.2.1.2.2.2.1.1
      have n0 := e.2.1.2.2.2.2
      refine aw_aload_n hX dX9_begin_27 rfl ?_
      refine gt_X9_10 hX dX9_begin_28 (by assumption) (by exact rfl) ?_
      refine gt_X9_66 hX dX9_begin_31 (by assumption) (by exact rfl) ?_
      refine gt_X9_70 hX dX9_begin_34 (by assumption) (by exact rfl) ?_
      refine aw_istore_n hX dX9_begin_37 (Nat.le_of_ble_eq_true rfl) ?_
      refine aw_aload_n hX dX9_begin_38 rfl ?_
      refine gt_X9_10 hX dX9_begin_39 (by assumption) (by exact rfl) ?_
      refine gt_X9_66 hX dX9_begin_42 (by assumption) (by exact rfl) ?_
      refine aw_iload_n hX dX9_begin_45 rfl ?_
      refine aw_callV0 hX RX9 rfl (tX0_renew _ _ _ e.2.1.2.1 c) rfl mf_X0_renew mi_X0_renew ms_X0_renew kl_X9_75 (by assumption) rfl rfl (by decide) (Nat.le_of_ble_eq_true rfl) dX9_begin_46 (by decide) (fun v_46 h_46 p_46 => ?_)
      obtain ⟨rfl, q, s2⟩ := p_46
      have e := e.dots (D := (c, fun _ => 0, fun _ => 0, fun _ => 0, fun _ => 0, fun _ => 0)) q s2
      have sm := sm.tr s2 (by omega) (by omega)
      have e0 := e.1
      have s0 := e.2.1.1
      have m0 := e.2.1.2.2.1.1
      refine aw_aload_n hX dX9_begin_49 rfl ?_
      refine gt_X9_10 hX dX9_begin_50 (by assumption) (by exact rfl) ?_
      refine gt_X9_79 hX dX9_begin_53 (by assumption) (by exact rfl) ?_
      refine aw_callV0 hX RX9 rfl (tX3_renew _ _ _ e.2.1.2.2.1) rfl mf_X3_renew mi_X3_renew ms_X3_renew kl_X9_83 (by assumption) rfl rfl (by decide) (Nat.le_of_ble_eq_true rfl) dX9_begin_56 (by decide) (fun v_56 h_56 p_56 => ?_)
      obtain ⟨rfl, q, s2⟩ := p_56
      have e := e.meter (M := (0, 0, 0, 0, fun _ => 0)) q s2
      have sm := sm.tr s2 (by omega) (by omega)
      refine aw_iload_n hX dX9_begin_59 rfl ?_
      exact aw_iret hX rfl rfl rfl rfl dX9_begin_60 (by rw [fBegin, if_pos hv]; exact ⟨rfl, e, sm⟩)
    · refine aw_sipush hX (-1001) dX9_begin_12 (by decide) ?_
      exact aw_iret hX rfl rfl rfl rfl dX9_begin_15 (by rw [fBegin, if_neg (by simp only [bI_eq0, Decidable.not_not, Int32.lt_iff_toInt_lt, Int32.le_iff_toInt_le, Int32.reduceToInt] at c_3 c_9 ⊢; omega)]; exact ⟨rfl, e, Sm.rf⟩)
end B2
