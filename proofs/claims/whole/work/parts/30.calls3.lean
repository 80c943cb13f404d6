/-! showing, passing, loading -/
def secN (P o : Nat) : Nat → PV → PV
  | 0, v => v
  | k + 1, v => secF (secN P o k v) P o
theorem secN_VW {v : PV} {W P o : Nat} (H : VW v W P o) : ∀ k, VW (secN P o k v) W P o
  | 0 => H
  | k + 1 => secF_VW (secN_VW H k)
theorem secN_K (v : PV) (P o : Nat) : ∀ k, (secN P o k v).1.1 = v.1.1 ∧ (secN P o k v).2.2 = v.2.2 ∧ (secN P o k v).2.1.2.2.2.1 = v.2.1.2.2.2.1 + k
  | 0 => ⟨rfl, rfl, rfl⟩
  | k + 1 => by
    obtain ⟨h1, h2, h3⟩ := secN_K v P o k
    obtain ⟨g1, g2, g3⟩ := secF_K (secN P o k v) P o
    exact ⟨g1.trans h1, g2.trans h2, g3.trans (by rw [h3]; omega)⟩
abbrev wmF (S : SV) (m w : Int32) : Prop := (0 ≤ m ∧ m < nI S.2.2.2.2 ∧ m < 8) ∧ 0 ≤ w ∧ w ≤ 1
def shF (v : PV) (W m w : Nat) : IF := pF W v.2.2.1 m (if w = 1 then bestF v W m else 0)
def fShow (B : FV) (W : Nat) (m w : Int32) : Int32 × FV :=
  if wmF (BS B) m w then (dueN (aimD B.1 (shF B.1 W m.toNatClampNeg w.toNatClampNeg), B.1.2), setD B (aimD B.1 (shF B.1 W m.toNatClampNeg w.toNatClampNeg))) else (-1001, B)
def fPass (B : FV) (P o : Nat) (s : Int32) : Int32 × FV :=
  if 1 ≤ s ∧ s ≤ 200 then (dueN (secN P o s.toNatClampNeg B.1), (secN P o s.toNatClampNeg B.1, keepF B.2.1 B.1, B.2.2)) else (-1001, B)
def fLoad (B : FV) (a b : Nat) : Int32 × FV :=
  if erI (rdF B.2.2.1 B.2.2.2 0 (BS B, 0, 0, a, b)) B.2.2.2 = -1 then
    (nI (rdF B.2.2.1 B.2.2.2 0 (BS B, 0, 0, a, b)).2.2.1, ((B.1.1, B.1.2.1, (rdF B.2.2.1 B.2.2.2 0 (BS B, 0, 0, a, b)).2.1, B.1.2.2.2), keepF B.2.1 B.1, B.2.2.1, 0))
  else (-2000 - erI (rdF B.2.2.1 B.2.2.2 0 (BS B, 0, 0, a, b)) B.2.2.2, B)
def fPicture (B : FV) (W : Nat) (m s c : Int32) : Int32 :=
  if (0 ≤ m ∧ m < nI (BS B).2.2.2.2 ∧ m < 8) ∧ 0 ≤ c ∧ c < B.1.1.1 ∧ c < 40 then (if -2 ≤ s ∧ s ≤ 2 then pF W (BS B) m.toNatClampNeg s.toInt c.toNatClampNeg else -1001) else -1001
def fBestShift (B : FV) (W : Nat) (m : Int32) : Int32 := if 0 ≤ m ∧ m < nI (BS B).2.2.2.2 ∧ m < 8 then iI (bestF B.1 W m.toNatClampNeg) else -1001
def fDue (B : FV) (W : Nat) (m w : Int32) : Int32 := if wmF (BS B) m w then dfF B.1 (shF B.1 W m.toNatClampNeg w.toNatClampNeg) B.1.1.2.1 else -1001
def fBetween (B : FV) (W : Nat) (a b : Int32) : Int32 :=
  if (0 ≤ a ∧ a < nI (BS B).2.2.2.2 ∧ a < 8) ∧ 0 ≤ b ∧ b < nI (BS B).2.2.2.2 ∧ b < 8 then dfF B.1 (pF W (BS B) a.toNatClampNeg 0) (pF W (BS B) b.toNatClampNeg 0) else -1001
section C4
variable {h : HP} {x : Nat} {B : FV}
theorem HB.hp (H : HB h x B) : HPaint h (x + 123) := by
  obtain ⟨-, -, -, -, tr, R, O, g1, g2, -⟩ := H
  exact g2
theorem HB.hf (H : HB h x B) : HFlip h (x + 126) := by
  obtain ⟨-, -, -, -, tr, R, O, g1, g2, g3, -⟩ := H
  exact g3
theorem HB.drawn (H : HB h x B) (f : IF) : HB (hset h (x + 123 + 1) (cI 40 f)) x B := by
  have s : Sm (x + 123 + 1) (x + 123 + 2) h (hset h (x + 123 + 1) (cI 40 f)) := Sm.rf.set (Nat.le_refl _) (Nat.lt_succ_self _)
  obtain ⟨tr, R, O, g1, g2, g3, g4, g5, g6⟩ := H.2.2.2.2
  exact H.scr (tr := tr) (R := R) (O := O) ⟨g1.sm s (by omega), g2.a1 f, g3.sm s (by omega), g4.sm s (by omega), g5.sm s (by omega), g6⟩ s (by omega) (by omega)
theorem HB.drawn2 (H : HB h x B) (f : IF) : HB (hset h (x + 123 + 2) (cI 40 f)) x B := by
  have s : Sm (x + 123 + 2) (x + 123 + 3) h (hset h (x + 123 + 2) (cI 40 f)) := Sm.rf.set (Nat.le_refl _) (Nat.lt_succ_self _)
  obtain ⟨tr, R, O, g1, g2, g3, g4, g5, g6⟩ := H.2.2.2.2
  exact H.scr (tr := tr) (R := R) (O := O) ⟨g1.sm s (by omega), g2.a2 f, g3.sm s (by omega), g4.sm s (by omega), g5.sm s (by omega), g6⟩ s (by omega) (by omega)
theorem HB.flipd (H : HB h x B) (f : IF) : HB (hset h (x + 126 + 1) (cI 40 f)) x B := by
  have s : Sm (x + 126 + 1) (x + 126 + 2) h (hset h (x + 126 + 1) (cI 40 f)) := Sm.rf.set (Nat.le_refl _) (Nat.lt_succ_self _)
  obtain ⟨tr, R, O, g1, g2, g3, g4, g5, g6⟩ := H.2.2.2.2
  exact H.scr (tr := tr) (R := R) (O := O) ⟨g1.sm s (by omega), g2.sm s (by omega), g3.a1 f, g4.sm s (by omega), g5.sm s (by omega), g6⟩ s (by omega) (by omega)
theorem HB.read {h' : HP} (H : HB h x B) {R : RV} (H' : HRead h' (x + 128) R) (s : Sm (x + 128) (x + 128 + 6) h h') (h1 : R.2.2.2.1 < 26) (h2 : R.2.2.2.2 ≤ 7) : HB h' x B := by
  obtain ⟨tr, R0, O, g1, g2, g3, g4, g5, g6, g7⟩ := H.2.2.2.2
  exact H.scr (tr := tr) (R := R) (O := O) ⟨g1.sm s (by omega), g2.sm s (by omega), g3.sm s (by omega), H', g5.sm s (by omega), ⟨h1, h2⟩, g7⟩ s (by omega) (by omega)
theorem HB.orde {h' : HP} (H : HB h x B) {O : OV} (H' : HOrd h' (x + 134) O) (s : Sm (x + 134) (x + 134 + 49) h h') (h1 : ∀ j, j < 6 → O.2.2.2.1 0 j = 0) : HB h' x B := by
  obtain ⟨tr, R, O0, g1, g2, g3, g4, g5, g6, g7⟩ := H.2.2.2.2
  exact H.scr (tr := tr) (R := R) (O := O) ⟨g1.sm s (by omega), g2.sm s (by omega), g3.sm s (by omega), g4.sm s (by omega), H', g6, h1⟩ s (by omega) (by omega)
theorem HB.tria {h' : HP} (H : HB h x B) {tr : PV} (H' : HState h' (x + 16) tr) (s : Sm (x + 16) (x + 16 + 15) h h') : HB h' x B := by
  obtain ⟨h1, h2, h3, h4, tr0, R, O, g1, g2, g3, g4, g5, g6⟩ := H
  exact ⟨(s.at (by omega)).trans h1, h2.sm s (by omega), h3.sm s (by omega), (s.at (by omega)).trans h4, tr, R, O, H', g2.sm s (by omega), g3.sm s (by omega), g4.sm s (by omega), g5.sm s (by omega), g6⟩
theorem tX9_canShow (l : Launch) (E : EV) (n : Nat) (H : HB h x B) (m w : Int32) : MX9_canShow l E n h [.ref x, .int m, .int w] (PR (.int (bI (wmF (BS B) m w))) h) := by
  obtain ⟨e0, ev, -⟩ := H
  have s0 := ev.1
  have c0 := ev.2.2.2.1.1
  refine AM.intro mf_X9_canShow (by simp [Value.category]) (Nat.le_of_ble_eq_true rfl) (fun X hl hE hnm hX => ?_)
  subst hl
  subst hE
  show AW X _ _ 0 0 0 [some (.ref x), some (.int m), some (.int w)] []
  refine aw_aload_n hX dX9_canShow_0 rfl ?_
  refine gt_X9_10 hX dX9_canShow_1 (by assumption) (by exact rfl) ?_
  refine gt_X9_100 hX dX9_canShow_4 (by assumption) (by exact rfl) ?_
  refine aw_iload_n hX dX9_canShow_7 rfl ?_
  refine aw_callVp hX RX9 rfl (tX7_hasMessage _ _ _ ev.2.2.2.1 m) rfl mf_X7_hasMessage mi_X7_hasMessage ms_X7_hasMessage kl_X9_123 (by assumption) rfl rfl (by decide) (Nat.le_of_ble_eq_true rfl) dX9_canShow_8 (by decide) ?_
  refine aw_if_eq hX 27 dX9_canShow_11 (by decide) (fun c_11 => ?_) (fun c_11 => ?_)
  · refine aw_iconst hX (0) dX9_canShow_27 (by decide) ?_
    exact aw_zret hX rfl (Or.inl rfl) rfl rfl rfl dX9_canShow_28 (prF (fun q => bI_eq0.mp c_11 q.1))
  · refine aw_iload_n hX dX9_canShow_14 rfl ?_
    refine aw_if_lt hX 27 dX9_canShow_15 (by decide) (fun c_15 => ?_) (fun c_15 => ?_)
    · refine aw_iconst hX (0) dX9_canShow_27 (by decide) ?_
      exact aw_zret hX rfl (Or.inl rfl) rfl rfl rfl dX9_canShow_28 (prF (fun q => Int32.not_le.mpr c_15 q.2.1))
    · refine aw_iload_n hX dX9_canShow_18 rfl ?_
      refine aw_iconst hX (1) dX9_canShow_19 (by decide) ?_
      refine aw_icmp_gt hX 27 dX9_canShow_20 (by decide) (fun c_20 => ?_) (fun c_20 => ?_)
      · refine aw_iconst hX (0) dX9_canShow_27 (by decide) ?_
        exact aw_zret hX rfl (Or.inl rfl) rfl rfl rfl dX9_canShow_28 (prF (fun q => Int32.not_le.mpr c_20 q.2.2))
      · refine aw_iconst hX (1) dX9_canShow_23 (by decide) ?_
        refine aw_goto hX 28 dX9_canShow_24 (by decide) ?_
        exact aw_zret hX rfl (by first | exact Or.inl rfl | exact Or.inr rfl | assumption) rfl rfl rfl dX9_canShow_28 (by exact prT ⟨Decidable.not_not.mp (fun q => c_11 (bI_eq0.mpr q)), Int32.not_lt.mp c_15, Int32.not_lt.mp c_20⟩)
theorem wm_ex {S : SV} (hK : S.2.2.2.2 ≤ 8) {m w : Int32} (H : wmF S m w) : (∃ k, k < S.2.2.2.2 ∧ m = nI k) ∧ ∃ j, j ≤ 1 ∧ w = nI j := by
  obtain ⟨h1, h2, h3⟩ := H
  have q := Int32.le_iff_toInt_le.mp h3
  have q1 : (1 : Int32).toInt = 1 := by decide
  have q2 : (nI 2).toInt = 2 := by decide
  obtain ⟨j, hj, e⟩ := rng 2 (by decide) h2 (by rw [Int32.lt_iff_toInt_lt]; omega)
  exact ⟨rng _ (by omega) h1.1 h1.2.1, j, by omega, e⟩
theorem tX9_show (l : Launch) (E : EV) (n : Nat) (H : HB h x B) {W P o : Nat} (hV : VW B.1 W P o) (m w : Int32) : MX9_show l E n h [.ref x, .int m, .int w] (PB x h (fShow B W m w)) := by
  obtain ⟨v1, v2, hS, -⟩ := hV
  have e := H
  obtain ⟨e0, ev, ⟨f, vs, hf, hz, eh, hs⟩, et, -⟩ := H
  have h0 := eh.1
  refine AM.intro mf_X9_show (by simp [Value.category]) (Nat.le_of_ble_eq_true rfl) (fun X hl hE hnm hX => ?_)
  subst hl
  subst hE
  show AW X _ _ 0 0 0 [some (.ref x), some (.int m), some (.int w)] []
  refine aw_aload_n hX dX9_show_0 rfl ?_
  refine aw_iload_n hX dX9_show_1 rfl ?_
  refine aw_iload_n hX dX9_show_2 rfl ?_
  refine aw_callVp hX RX9 rfl (tX9_canShow _ _ _ e m w) rfl mf_X9_canShow mi_X9_canShow ms_X9_canShow kl_X9_143 (by assumption) rfl rfl (by decide) (Nat.le_of_ble_eq_true rfl) dX9_show_3 (by decide) ?_
  refine aw_if_ne hX 13 dX9_show_6 (by decide) (fun c_6 => ?_) (fun c_6 => ?_)
  · have hv := Decidable.not_not.mp (fun q => c_6 (bI_eq0.mpr q))
    obtain ⟨⟨k, hk, rfl⟩, j, hj, rfl⟩ := wm_ex hS.1 hv
    have hkc : (nI k).toNatClampNeg = k := nI_clamp (by have := hS.1; omega)
    have hjc : (nI j).toNatClampNeg = j := nI_clamp (by omega)
    refine aw_aload_n hX dX9_show_13 rfl ?_
    refine gt_X9_22 hX dX9_show_14 (by assumption) (by exact rfl) ?_
    refine aw_aload_n hX dX9_show_17 rfl ?_
    refine gt_X9_10 hX dX9_show_18 (by assumption) (by exact rfl) ?_
    refine aw_callV0 hX RX9 rfl (tX2_keep _ _ _ eh hf hz ev (by omega)) rfl mf_X2_keep mi_X2_keep ms_X2_keep kl_X9_62 (by assumption) rfl rfl (by decide) (Nat.le_of_ble_eq_true rfl) dX9_show_21 (by decide) (fun v_21 h_21 p_21 => ?_)
    obtain ⟨rfl, hh, sm⟩ := p_21
    have e := e.kept hf hz hs hh sm
    have sm := Sm.tr (lo := x) (hi := x + 184) Sm.rf sm (by omega) (by omega)
    have e0 := e.1
    have s0 := e.2.1.1
    have d0 := e.2.1.2.1.1
    have m0 := e.2.1.2.2.1.1
    have c0 := e.2.1.2.2.2.1.1
    have n0 := e.2.1.2.2.2.2
    have p0 := e.hp.1
    refine aw_aload_n hX dX9_show_24 rfl ?_
    refine gt_X9_29 hX dX9_show_25 (by assumption) (by exact rfl) ?_
    refine aw_aload_n hX dX9_show_28 rfl ?_
    refine gt_X9_10 hX dX9_show_29 (by assumption) (by exact rfl) ?_
    refine aw_iload_n hX dX9_show_32 rfl ?_
    refine aw_iload_n hX dX9_show_33 rfl ?_
    refine aw_callV0 hX RX9 rfl (tX5_drawAs _ _ _ e.2.1 v1 v2.2 hS hk e.hp (by omega) hj) rfl mf_X5_drawAs mi_X5_drawAs ms_X5_drawAs kl_X9_147 (by assumption) rfl rfl (by decide) (Nat.le_of_ble_eq_true rfl) dX9_show_34 (by decide) (fun v_34 h_34 p_34 => ?_)
    obtain ⟨rfl, rfl⟩ := p_34
    have e := e.drawn (shF B.1 W k j)
    have sm := sm.set (a := x + 123 + 1) (c := cI 40 (shF B.1 W k j)) (by omega) (by omega)
    have e0 := e.1
    have s0 := e.2.1.1
    have d0 := e.2.1.2.1.1
    have p0 := e.hp.1
    have p1 := hset_eq h_21 (x + 123 + 1) (cI 40 (shF B.1 W k j))
    refine aw_aload_n hX dX9_show_37 rfl ?_
    refine gt_X9_10 hX dX9_show_38 (by assumption) (by exact rfl) ?_
    refine gt_X9_66 hX dX9_show_41 (by assumption) (by exact rfl) ?_
    refine aw_aload_n hX dX9_show_44 rfl ?_
    refine gt_X9_29 hX dX9_show_45 (by assumption) (by exact rfl) ?_
    refine gt_X9_151 hX dX9_show_48 (by assumption) (by exact rfl) ?_
    refine aw_callV0 hX RX9 rfl (tX0_aimAt _ _ _ e.2.1.2.1 p1) rfl mf_X0_aimAt mi_X0_aimAt ms_X0_aimAt kl_X9_154 (by assumption) rfl rfl (by decide) (Nat.le_of_ble_eq_true rfl) dX9_show_51 (by decide) (fun v_51 h_51 p_51 => ?_)
    obtain ⟨rfl, q, s2⟩ := p_51
    have e := e.dots (D := aimD B.1 (shF B.1 W k j)) q s2
    have sm := sm.tr s2 (by omega) (by omega)
    have e0 := e.1
    have s0 := e.2.1.1
    have d0 := e.2.1.2.1.1
    refine aw_aload_n hX dX9_show_54 rfl ?_
    refine gt_X9_10 hX dX9_show_55 (by assumption) (by exact rfl) ?_
    refine gt_X9_66 hX dX9_show_58 (by assumption) (by exact rfl) ?_
    refine aw_callVp hX RX9 rfl (tX0_dueDots _ _ _ e.2.1.2.1) rfl mf_X0_dueDots mi_X0_dueDots ms_X0_dueDots kl_X9_158 (by assumption) rfl rfl (by decide) (Nat.le_of_ble_eq_true rfl) dX9_show_61 (by decide) ?_
    exact aw_iret hX rfl rfl rfl rfl dX9_show_64 (by rw [fShow, hkc, hjc, if_pos hv]; exact ⟨rfl, e, sm⟩)
  · refine aw_sipush hX (-1001) dX9_show_9 (by decide) ?_
    exact aw_iret hX rfl rfl rfl rfl dX9_show_12 (by rw [fShow, if_neg (bI_eq0.mp c_6)]; exact ⟨rfl, e, Sm.rf⟩)
theorem tX9_pass (l : Launch) (E : EV) (n : Nat) (H : HB h x B) {W P o : Nat} (hV : VW B.1 W P o) (hT : B.1.2.1.2.2.2.1 + 200 < 2 ^ 30) (s : Int32) : MX9_pass l E n h [.ref x, .int s] (PB x h (fPass B P o s)) := by
  have e := H
  obtain ⟨e0, ev, ⟨f, vs, hf, hz, eh, hs⟩, et, -⟩ := H
  have h0 := eh.1
  by_cases hv : 1 ≤ s ∧ s ≤ 200
  · obtain ⟨k, hk, rfl⟩ := rng 256 (by decide) (x := s) (Int32.le_trans (by decide) hv.1) (Int32.lt_of_le_of_lt hv.2 (by decide))
    have hkc : (nI k).toNatClampNeg = k := nI_clamp (by omega)
    have hk200 : k ≤ 200 := (nI_leI (a := k) (b := 200) (by omega) (by decide)).mp hv.2
    rw [fPass, hkc, if_pos hv]
    refine AM.intro mf_X9_pass (by simp [Value.category]) (Nat.le_of_ble_eq_true rfl) (fun X hl hE hnm hX => ?_)
    subst hl
    subst hE
    show AW X _ _ 0 0 0 [some (.ref x), some (.int (nI k)), none] []
    have loop : ∀ (g j : Nat) (hh : HP), j ≤ k → k - j < g → HB hh x (secN P o j B.1, keepF B.2.1 B.1, B.2.2) → Sm x (x + 184) h hh → AW X n hh 0 0 29 [some (.ref x), some (.int (nI k)), some (.int (nI j))] [] := by
      intro g
      induction g with
      | zero => intro j hh h1 h2; omega
      | succ g ih =>
        intro j hh h1 h2 e sm
        have e0 := e.1
        have s0 := e.2.1.1
        have d0 := e.2.1.2.1.1
        have f0 := e.hf.1
        obtain ⟨u1, u2, u3, ⟨u4, u5, u6⟩, ⟨u7, u8⟩, u9⟩ := secN_VW hV j
        have hT2 := (secN_K B.1 P o j).2.2
        refine aw_iload_n hX dX9_pass_29 rfl ?_
        refine aw_iload_n hX dX9_pass_30 rfl ?_
        refine aw_icmp_ge hX 51 dX9_pass_31 (by decide) (fun c_31 => ?_) (fun c_31 => ?_)
        · have n_31 : k ≤ j := (nI_leI (a := k) (b := j) (by omega) (by omega)).mp c_31
          have hj : j = k := by omega
          subst hj
          refine aw_aload_n hX dX9_pass_51 rfl ?_
          refine gt_X9_10 hX dX9_pass_52 (by assumption) (by exact rfl) ?_
          refine gt_X9_66 hX dX9_pass_55 (by assumption) (by exact rfl) ?_
          refine aw_callVp hX RX9 rfl (tX0_dueDots _ _ _ e.2.1.2.1) rfl mf_X0_dueDots mi_X0_dueDots ms_X0_dueDots kl_X9_158 (by assumption) rfl rfl (by decide) (Nat.le_of_ble_eq_true rfl) dX9_pass_58 (by decide) ?_
          exact aw_iret hX rfl rfl rfl rfl dX9_pass_61 (by exact ⟨rfl, e, sm⟩)
        · have n_31 : ¬ k ≤ j := fun q => c_31 ((nI_leI (a := k) (b := j) (by omega) (by omega)).mpr q)
          refine aw_aload_n hX dX9_pass_34 rfl ?_
          refine gt_X9_36 hX dX9_pass_35 (by assumption) (by exact rfl) ?_
          refine aw_aload_n hX dX9_pass_38 rfl ?_
          refine gt_X9_10 hX dX9_pass_39 (by assumption) (by exact rfl) ?_
          refine aw_callV0 hX RX9 rfl (tX1_passSecond _ _ _ e.2.1 u1 e.hf (by omega) u9.len u4 u7 u6 u8 (by rw [hT2]; omega) (fun i hi => u9.ord o hi)) rfl mf_X1_passSecond mi_X1_passSecond ms_X1_passSecond kl_X9_182 (by assumption) rfl rfl (by decide) (Nat.le_of_ble_eq_true rfl) dX9_pass_42 (by decide) (fun v_42 h_42 p_42 => ?_)
          obtain ⟨rfl, q, f, s2⟩ := p_42
          have e := (e.flipd f).now q s2
          have sm := (sm.set (a := x + 126 + 1) (c := cI 40 f) (by omega) (by omega)).tr s2 (by omega) (by omega)
          refine aw_iinc hX (nI (j + 1)) dX9_pass_45 rfl (nI_1 j) ?_
          refine aw_goto hX 29 dX9_pass_48 (by decide) ?_
          exact ih (j + 1) _ (by omega) (by omega) e sm
    refine aw_iload_n hX dX9_pass_0 rfl ?_
    refine aw_iconst hX (1) dX9_pass_1 (by decide) ?_
    refine aw_icmp_lt hX 12 dX9_pass_2 (by decide) (fun c_2 => ?_) (fun c_2 => ?_)
    · exact absurd hv.1 (Int32.not_le.mpr c_2)
    · refine aw_iload_n hX dX9_pass_5 rfl ?_
      refine aw_sipush hX (200) dX9_pass_6 (by decide) ?_
      refine aw_icmp_le hX 16 dX9_pass_9 (by decide) (fun c_9 => ?_) (fun c_9 => ?_)
      · refine aw_aload_n hX dX9_pass_16 rfl ?_
        refine gt_X9_22 hX dX9_pass_17 (by assumption) (by exact rfl) ?_
        refine aw_aload_n hX dX9_pass_20 rfl ?_
        refine gt_X9_10 hX dX9_pass_21 (by assumption) (by exact rfl) ?_
        refine aw_callV0 hX RX9 rfl (tX2_keep _ _ _ eh hf hz ev (by omega)) rfl mf_X2_keep mi_X2_keep ms_X2_keep kl_X9_62 (by assumption) rfl rfl (by decide) (Nat.le_of_ble_eq_true rfl) dX9_pass_24 (by decide) (fun v_24 h_24 p_24 => ?_)
        obtain ⟨rfl, hh, sm⟩ := p_24
        have e := e.kept hf hz hs hh sm
        have sm := Sm.tr (lo := x) (hi := x + 184) Sm.rf sm (by omega) (by omega)
        have e0 := e.1
        have s0 := e.2.1.1
        have d0 := e.2.1.2.1.1
        have m0 := e.2.1.2.2.1.1
        have c0 := e.2.1.2.2.2.1.1
        have n0 := e.2.1.2.2.2.2
        refine aw_iconst hX (0) dX9_pass_27 (by decide) ?_
        refine aw_istore_n hX dX9_pass_28 (Nat.le_of_ble_eq_true rfl) ?_
        exact loop (k + 1) 0 _ (by omega) (by omega) e sm
      · exact absurd hv.2 c_9
  · rw [fPass, if_neg hv]
    refine AM.intro mf_X9_pass (by simp [Value.category]) (Nat.le_of_ble_eq_true rfl) (fun X hl hE hnm hX => ?_)
    subst hl
    subst hE
    show AW X _ _ 0 0 0 [some (.ref x), some (.int s), none] []
    refine aw_iload_n hX dX9_pass_0 rfl ?_
    refine aw_iconst hX (1) dX9_pass_1 (by decide) ?_
    refine aw_icmp_lt hX 12 dX9_pass_2 (by decide) (fun c_2 => ?_) (fun c_2 => ?_)
    · refine aw_sipush hX (-1001) dX9_pass_12 (by decide) ?_
      exact aw_iret hX rfl rfl rfl rfl dX9_pass_15 (by exact ⟨rfl, e, Sm.rf⟩)
    · refine aw_iload_n hX dX9_pass_5 rfl ?_
      refine aw_sipush hX (200) dX9_pass_6 (by decide) ?_
      refine aw_icmp_le hX 16 dX9_pass_9 (by decide) (fun c_9 => ?_) (fun c_9 => ?_)
      · exact absurd (And.intro (Int32.not_lt.mp c_2) c_9) hv
      · refine aw_sipush hX (-1001) dX9_pass_12 (by decide) ?_
        exact aw_iret hX rfl rfl rfl rfl dX9_pass_15 (by exact ⟨rfl, e, Sm.rf⟩)
theorem tX9_load (l : Launch) (E : EV) (n : Nat) (H : HB h x B) {W P o : Nat} (hV : VW B.1 W P o) (htx : ∀ j, j < 120 → B.2.2.1 j < 256) (hlen : B.2.2.2 ≤ 120) : MX9_load l E n h [.ref x] (fun r h' => ∃ a b, a < 26 ∧ b ≤ 7 ∧ PB x h (fLoad B a b) r h') := by
  obtain ⟨v1, v2, hS, -⟩ := hV
  have e := H
  obtain ⟨e0, ev, ⟨f, vs, hf, hz, eh, hs⟩, et, tr, R, O, g1, g2, g3, g4, g5, ⟨g6, g7⟩, g8⟩ := H
  have h0 := eh.1
  have s0 := ev.1
  have c0 := ev.2.2.2.1.1
  have r0 := g4.1
  refine AM.intro mf_X9_load (by simp [Value.category]) (Nat.le_of_ble_eq_true rfl) (fun X hl hE hnm hX => ?_)
  subst hl
  subst hE
  show AW X _ _ 0 0 0 [some (.ref x), none] []
  refine aw_aload_n hX dX9_load_0 rfl ?_
  refine gt_X9_43 hX dX9_load_1 (by assumption) (by exact rfl) ?_
  refine aw_aload_n hX dX9_load_4 rfl ?_
  refine gt_X9_54 hX dX9_load_5 (by assumption) (by exact rfl) ?_
  refine aw_aload_n hX dX9_load_8 rfl ?_
  refine gt_X9_58 hX dX9_load_9 (by assumption) (by exact rfl) ?_
  refine aw_aload_n hX dX9_load_12 rfl ?_
  refine gt_X9_10 hX dX9_load_13 (by assumption) (by exact rfl) ?_
  refine gt_X9_100 hX dX9_load_16 (by assumption) (by exact rfl) ?_
  refine aw_callV0 hX RX9 rfl (tX6_errorIn _ _ _ g4 g6 g7 ev.2.2.2.1 (by omega) hS.1 hS.2.1 et (by omega) htx hlen) rfl mf_X6_errorIn mi_X6_errorIn ms_X6_errorIn kl_X9_129 (by assumption) rfl rfl (by decide) (Nat.le_of_ble_eq_true rfl) dX9_load_19 (by decide) (fun v_19 h_19 p_19 => ?_)
  obtain ⟨rfl, q, qw, smA⟩ := p_19
  have e := e.read q smA qw.2.2.1 qw.2.2.2.1
  have e0 := e.1
  have ev := e.2.1
  have eh := eh.sm smA (by omega)
  have h0 := eh.1
  have smA := Sm.tr (lo := x) (hi := x + 184) Sm.rf smA (by omega) (by omega)
  refine aw_istore_n hX dX9_load_22 (Nat.le_of_ble_eq_true rfl) ?_
  refine aw_iload_n hX dX9_load_23 rfl ?_
  refine aw_iconst hX (-1) dX9_load_24 (by decide) ?_
  refine aw_icmp_eq hX 34 dX9_load_25 (by decide) (fun c_25 => ?_) (fun c_25 => ?_)
  · refine aw_aload_n hX dX9_load_34 rfl ?_
    refine gt_X9_22 hX dX9_load_35 (by assumption) (by exact rfl) ?_
    refine aw_aload_n hX dX9_load_38 rfl ?_
    refine gt_X9_10 hX dX9_load_39 (by assumption) (by exact rfl) ?_
    refine aw_callV0 hX RX9 rfl (tX2_keep _ _ _ eh hf hz ev (by omega)) rfl mf_X2_keep mi_X2_keep ms_X2_keep kl_X9_62 (by assumption) rfl rfl (by decide) (Nat.le_of_ble_eq_true rfl) dX9_load_42 (by decide) (fun v_42 h_42 p_42 => ?_)
    obtain ⟨rfl, hh, sm⟩ := p_42
    have q := q.sm sm (by omega)
    have e := e.kept hf hz hs hh sm
    have sm := smA.tr sm (by omega) (by omega)
    have e0 := e.1
    have s0 := e.2.1.1
    have c0 := e.2.1.2.2.2.1.1
    have q0 := q.1
    refine aw_aload_n hX dX9_load_45 rfl ?_
    refine gt_X9_10 hX dX9_load_46 (by assumption) (by exact rfl) ?_
    refine gt_X9_100 hX dX9_load_49 (by assumption) (by exact rfl) ?_
    refine aw_aload_n hX dX9_load_52 rfl ?_
    refine gt_X9_43 hX dX9_load_53 (by assumption) (by exact rfl) ?_
    refine gt_X9_133 hX dX9_load_56 (by assumption) (by exact rfl) ?_
    refine aw_callV0 hX RX9 rfl (tX7_copyFrom _ _ _ e.2.1.2.2.2.1 q.2 (by omega)) rfl mf_X7_copyFrom mi_X7_copyFrom ms_X7_copyFrom kl_X9_136 (by assumption) rfl rfl (by decide) (Nat.le_of_ble_eq_true rfl) dX9_load_59 (by decide) (fun v_59 h_59 p_59 => ?_)
    obtain ⟨rfl, q2, s2⟩ := p_59
    have e := e.script (S := (rdF B.2.2.1 B.2.2.2 0 (BS B, 0, 0, R.2.2.2.1, R.2.2.2.2)).2.1) q2 s2
    have q := q.sm s2 (by omega)
    have sm := sm.tr s2 (by omega) (by omega)
    have e0 := e.1
    refine aw_aload_n hX dX9_load_62 rfl ?_
    refine aw_iconst hX (0) dX9_load_63 (by decide) ?_
    refine pt_X9_58 hX dX9_load_64 (by assumption) (Nat.le_of_ble_eq_true rfl) ?_
    dsimp only [List.set_cons_zero, List.set_cons_succ]
    have e := e.txt 0
    have e0 := e.1
    have q := q.sm (h' := hset _ x (oB x 0)) (lo := x) (hi := x + 1) (Sm.rf.set (Nat.le_refl _) (Nat.lt_succ_self _)) (by omega)
    have q0 := q.1
    refine aw_aload_n hX dX9_load_67 rfl ?_
    refine gt_X9_43 hX dX9_load_68 (by assumption) (by exact rfl) ?_
    refine gt_X9_140 hX dX9_load_71 (by assumption) (by exact rfl) ?_
    exact aw_iret hX rfl rfl rfl rfl dX9_load_74 (by refine ⟨_, _, g6, g7, ?_⟩; rw [fLoad, if_pos c_25]; exact ⟨rfl, e, sm.set (by omega) (by omega)⟩)
  · refine aw_sipush hX (-2000) dX9_load_28 (by decide) ?_
    refine aw_iload_n hX dX9_load_31 rfl ?_
    refine aw_isub hX dX9_load_32 ?_
    exact aw_iret hX rfl rfl rfl rfl dX9_load_33 (by refine ⟨_, _, g6, g7, ?_⟩; rw [fLoad, if_neg c_25]; exact ⟨rfl, e, smA⟩)
theorem tX9_picture (l : Launch) (E : EV) (n : Nat) (H : HB h x B) {W P o : Nat} (hV : VW B.1 W P o) (m s c : Int32) : MX9_picture l E n h [.ref x, .int m, .int s, .int c] (PB x h (fPicture B W m s c, B)) := by
  obtain ⟨v1, v2, hS, -⟩ := hV
  have e := H
  obtain ⟨e0, ev, -⟩ := H
  have s0 := ev.1
  have d0 := ev.2.1.1
  have c0 := ev.2.2.2.1.1
  have p0 := e.hp.1
  have hK8 : (BS B).2.2.2.2 ≤ 8 := hS.1
  have hp := e.hp
  obtain ⟨p0, ⟨f0, p1⟩, p2⟩ := e.hp
  refine AM.intro mf_X9_picture (by simp [Value.category]) (Nat.le_of_ble_eq_true rfl) (fun X hl hE hnm hX => ?_)
  subst hl
  subst hE
  show AW X _ _ 0 0 0 [some (.ref x), some (.int m), some (.int s), some (.int c)] []
  refine aw_aload_n hX dX9_picture_0 rfl ?_
  refine gt_X9_10 hX dX9_picture_1 (by assumption) (by exact rfl) ?_
  refine gt_X9_100 hX dX9_picture_4 (by assumption) (by exact rfl) ?_
  refine aw_iload_n hX dX9_picture_7 rfl ?_
  refine aw_callVp hX RX9 rfl (tX7_hasMessage _ _ _ ev.2.2.2.1 m) rfl mf_X7_hasMessage mi_X7_hasMessage ms_X7_hasMessage kl_X9_123 (by assumption) rfl rfl (by decide) (Nat.le_of_ble_eq_true rfl) dX9_picture_8 (by decide) ?_
  refine aw_if_eq hX 28 dX9_picture_11 (by decide) (fun c_11 => ?_) (fun c_11 => ?_)
  · refine aw_sipush hX (-1001) dX9_picture_28 (by decide) ?_
    exact aw_iret hX rfl rfl rfl rfl dX9_picture_31 (by rw [fPicture, if_neg (fun q => bI_eq0.mp c_11 q.1)]; exact ⟨rfl, e, Sm.rf⟩)
  · refine aw_aload_n hX dX9_picture_14 rfl ?_
    refine gt_X9_10 hX dX9_picture_15 (by assumption) (by exact rfl) ?_
    refine gt_X9_66 hX dX9_picture_18 (by assumption) (by exact rfl) ?_
    refine aw_iload_n hX dX9_picture_21 rfl ?_
    refine aw_callVp hX RX9 rfl (tX0_hasColumn _ _ _ ev.2.1 c) rfl mf_X0_hasColumn mi_X0_hasColumn ms_X0_hasColumn kl_X9_209 (by assumption) rfl rfl (by decide) (Nat.le_of_ble_eq_true rfl) dX9_picture_22 (by decide) ?_
    refine aw_if_ne hX 32 dX9_picture_25 (by decide) (fun c_25 => ?_) (fun c_25 => ?_)
    · have hm := Decidable.not_not.mp (fun q => c_11 (bI_eq0.mpr q))
      have hc := Decidable.not_not.mp (fun q => c_25 (bI_eq0.mpr q))
      have hv := And.intro hm hc
      rw [fPicture, if_pos hv] at hX
      refine aw_iload_n hX dX9_picture_32 rfl ?_
      refine aw_bipush hX (-2) dX9_picture_33 (by decide) ?_
      refine aw_icmp_lt hX 43 dX9_picture_35 (by decide) (fun c_35 => ?_) (fun c_35 => ?_)
      · refine aw_sipush hX (-1001) dX9_picture_43 (by decide) ?_
        exact aw_iret hX rfl rfl rfl rfl dX9_picture_46 (by rw [if_neg (by simp only [bI_eq0, Decidable.not_not, Int32.lt_iff_toInt_lt, Int32.le_iff_toInt_le, Int32.reduceToInt] at c_11 c_25 c_35 ⊢; omega)]; exact ⟨rfl, e, Sm.rf⟩)
      · refine aw_iload_n hX dX9_picture_38 rfl ?_
        refine aw_iconst hX (2) dX9_picture_39 (by decide) ?_
        refine aw_icmp_le hX 47 dX9_picture_40 (by decide) (fun c_40 => ?_) (fun c_40 => ?_)
        · have hs : -2 ≤ s ∧ s ≤ 2 := by (simp only [bI_eq0, Decidable.not_not, Int32.lt_iff_toInt_lt, Int32.le_iff_toInt_le, Int32.reduceToInt] at c_11 c_25 c_35 c_40 ⊢; omega)
          have hs1 : -2 ≤ s.toInt := Int32.le_iff_toInt_le.mp hs.1
          have hs2 : s.toInt ≤ 2 := Int32.le_iff_toInt_le.mp hs.2
          rw [if_pos hs] at hX
          obtain ⟨k, hk, rfl⟩ := rng (BS B).2.2.2.2 (by omega) hm.1 hm.2.1
          have hkc : (nI k).toNatClampNeg = k := nI_clamp (by omega)
          obtain ⟨j, hj, rfl⟩ := rng 40 (by decide) hc.1 hc.2.2
          have hjc : (nI j).toNatClampNeg = j := nI_clamp (by omega)
          rw [hkc, hjc] at hX
          obtain ⟨z, hzt, rfl⟩ : ∃ z : Int, s.toInt = z ∧ s = iI z := ⟨_, rfl, (Int32.ofInt_toInt s).symm⟩
          rw [hzt] at hX hs1 hs2
          refine aw_aload_n hX dX9_picture_47 rfl ?_
          refine gt_X9_29 hX dX9_picture_48 (by assumption) (by exact rfl) ?_
          refine aw_aload_n hX dX9_picture_51 rfl ?_
          refine gt_X9_10 hX dX9_picture_52 (by assumption) (by exact rfl) ?_
          refine aw_iload_n hX dX9_picture_55 rfl ?_
          refine aw_iload_n hX dX9_picture_56 rfl ?_
          refine aw_aload_n hX dX9_picture_57 rfl ?_
          refine gt_X9_29 hX dX9_picture_58 (by assumption) (by exact rfl) ?_
          refine gt_X9_151 hX dX9_picture_61 (by assumption) (by exact rfl) ?_
          refine aw_callV0 hX RX9 rfl (tX5_draw _ _ _ ev v1 v2.2 hS hk hs1 hs2 (x + 123) p1 (by omega)) rfl mf_X5_draw mi_X5_draw ms_X5_draw kl_X9_236 (by assumption) rfl rfl (by decide) (Nat.le_of_ble_eq_true rfl) dX9_picture_64 (by decide) (fun v_64 h_64 p_64 => ?_)
          obtain ⟨rfl, rfl⟩ := p_64
          have e := e.drawn (pF W (BS B) k z)
          have e0 := e.1
          have p0 := e.hp.1
          have p1 := hset_eq h (x + 123 + 1) (cI 40 (pF W (BS B) k z))
          refine aw_aload_n hX dX9_picture_67 rfl ?_
          refine gt_X9_29 hX dX9_picture_68 (by assumption) (by exact rfl) ?_
          refine gt_X9_151 hX dX9_picture_71 (by assumption) (by exact rfl) ?_
          refine aw_iload_n hX dX9_picture_74 rfl ?_
          refine aw_ialdN hX (j) (by assumption) rfl hj (by first | decide | assumption) dX9_picture_75 ?_
          exact aw_iret hX rfl rfl rfl rfl dX9_picture_76 (by exact ⟨rfl, e, by repeat first | exact Sm.rf | refine Sm.set ?_ (by omega) (by omega)⟩)
        · refine aw_sipush hX (-1001) dX9_picture_43 (by decide) ?_
          exact aw_iret hX rfl rfl rfl rfl dX9_picture_46 (by rw [if_neg (by simp only [bI_eq0, Decidable.not_not, Int32.lt_iff_toInt_lt, Int32.le_iff_toInt_le, Int32.reduceToInt] at c_11 c_25 c_35 c_40 ⊢; omega)]; exact ⟨rfl, e, Sm.rf⟩)
    · refine aw_sipush hX (-1001) dX9_picture_28 (by decide) ?_
      exact aw_iret hX rfl rfl rfl rfl dX9_picture_31 (by rw [fPicture, if_neg (fun q => bI_eq0.mp c_25 q.2)]; exact ⟨rfl, e, Sm.rf⟩)
theorem tX9_bestShift (l : Launch) (E : EV) (n : Nat) (H : HB h x B) {W P o : Nat} (hV : VW B.1 W P o) (m : Int32) : MX9_bestShift l E n h [.ref x, .int m] (PB x h (fBestShift B W m, B)) := by
  obtain ⟨v1, v2, hS, -⟩ := hV
  have e := H
  obtain ⟨e0, ev, -⟩ := H
  have s0 := ev.1
  have d0 := ev.2.1.1
  have c0 := ev.2.2.2.1.1
  have p0 := e.hp.1
  have hK8 : (BS B).2.2.2.2 ≤ 8 := hS.1
  refine AM.intro mf_X9_bestShift (by simp [Value.category]) (Nat.le_of_ble_eq_true rfl) (fun X hl hE hnm hX => ?_)
  subst hl
  subst hE
  show AW X _ _ 0 0 0 [some (.ref x), some (.int m)] []
  refine aw_aload_n hX dX9_bestShift_0 rfl ?_
  refine gt_X9_10 hX dX9_bestShift_1 (by assumption) (by exact rfl) ?_
  refine gt_X9_100 hX dX9_bestShift_4 (by assumption) (by exact rfl) ?_
  refine aw_iload_n hX dX9_bestShift_7 rfl ?_
  refine aw_callVp hX RX9 rfl (tX7_hasMessage _ _ _ ev.2.2.2.1 m) rfl mf_X7_hasMessage mi_X7_hasMessage ms_X7_hasMessage kl_X9_123 (by assumption) rfl rfl (by decide) (Nat.le_of_ble_eq_true rfl) dX9_bestShift_8 (by decide) ?_
  refine aw_if_ne hX 18 dX9_bestShift_11 (by decide) (fun c_11 => ?_) (fun c_11 => ?_)
  · have hv := Decidable.not_not.mp (fun q => c_11 (bI_eq0.mpr q))
    rw [fBestShift, if_pos hv] at hX
    obtain ⟨k, hk, rfl⟩ := rng (BS B).2.2.2.2 (by omega) hv.1 hv.2.1
    have hkc : (nI k).toNatClampNeg = k := nI_clamp (by omega)
    rw [hkc] at hX
    refine aw_aload_n hX dX9_bestShift_18 rfl ?_
    refine gt_X9_29 hX dX9_bestShift_19 (by assumption) (by exact rfl) ?_
    refine aw_aload_n hX dX9_bestShift_22 rfl ?_
    refine gt_X9_10 hX dX9_bestShift_23 (by assumption) (by exact rfl) ?_
    refine aw_iload_n hX dX9_bestShift_26 rfl ?_
    refine aw_callV0 hX RX9 rfl (tX5_bestShiftOf _ _ _ ev v1 v2.2 hS hk e.hp (by omega)) rfl mf_X5_bestShiftOf mi_X5_bestShiftOf ms_X5_bestShiftOf kl_X9_243 (by assumption) rfl rfl (by decide) (Nat.le_of_ble_eq_true rfl) dX9_bestShift_27 (by decide) (fun v_27 h_27 p_27 => ?_)
    obtain ⟨rfl, f, rfl⟩ := p_27
    have e := e.drawn f
    exact aw_iret hX rfl rfl rfl rfl dX9_bestShift_30 (by exact ⟨rfl, e, by repeat first | exact Sm.rf | refine Sm.set ?_ (by omega) (by omega)⟩)
  · refine aw_sipush hX (-1001) dX9_bestShift_14 (by decide) ?_
    exact aw_iret hX rfl rfl rfl rfl dX9_bestShift_17 (by rw [fBestShift, if_neg (bI_eq0.mp c_11)]; exact ⟨rfl, e, Sm.rf⟩)
theorem tX9_due (l : Launch) (E : EV) (n : Nat) (H : HB h x B) {W P o : Nat} (hV : VW B.1 W P o) (m w : Int32) : MX9_due l E n h [.ref x, .int m, .int w] (PB x h (fDue B W m w, B)) := by
  obtain ⟨v1, v2, hS, -⟩ := hV
  have e := H
  obtain ⟨e0, ev, -⟩ := H
  have s0 := ev.1
  have p0 := e.hp.1
  have hK8 : B.1.2.2.1.2.2.2.2 ≤ 8 := hS.1
  refine AM.intro mf_X9_due (by simp [Value.category]) (Nat.le_of_ble_eq_true rfl) (fun X hl hE hnm hX => ?_)
  subst hl
  subst hE
  show AW X _ _ 0 0 0 [some (.ref x), some (.int m), some (.int w)] []
  refine aw_aload_n hX dX9_due_0 rfl ?_
  refine aw_iload_n hX dX9_due_1 rfl ?_
  refine aw_iload_n hX dX9_due_2 rfl ?_
  refine aw_callVp hX RX9 rfl (tX9_canShow _ _ _ e m w) rfl mf_X9_canShow mi_X9_canShow ms_X9_canShow kl_X9_143 (by assumption) rfl rfl (by decide) (Nat.le_of_ble_eq_true rfl) dX9_due_3 (by decide) ?_
  refine aw_if_ne hX 13 dX9_due_6 (by decide) (fun c_6 => ?_) (fun c_6 => ?_)
  · have hv := Decidable.not_not.mp (fun q => c_6 (bI_eq0.mpr q))
    rw [fDue, if_pos hv] at hX
    obtain ⟨⟨k, hk, rfl⟩, j, hj, rfl⟩ := wm_ex hS.1 hv
    have hkc : (nI k).toNatClampNeg = k := nI_clamp (by omega)
    have hjc : (nI j).toNatClampNeg = j := nI_clamp (by omega)
    rw [hkc, hjc] at hX
    refine aw_aload_n hX dX9_due_13 rfl ?_
    refine gt_X9_29 hX dX9_due_14 (by assumption) (by exact rfl) ?_
    refine aw_aload_n hX dX9_due_17 rfl ?_
    refine gt_X9_10 hX dX9_due_18 (by assumption) (by exact rfl) ?_
    refine aw_iload_n hX dX9_due_21 rfl ?_
    refine aw_iload_n hX dX9_due_22 rfl ?_
    refine aw_callV0 hX RX9 rfl (tX5_drawAs _ _ _ ev v1 v2.2 hS hk e.hp (by omega) hj) rfl mf_X5_drawAs mi_X5_drawAs ms_X5_drawAs kl_X9_147 (by assumption) rfl rfl (by decide) (Nat.le_of_ble_eq_true rfl) dX9_due_23 (by decide) (fun v_23 h_23 p_23 => ?_)
    obtain ⟨rfl, rfl⟩ := p_23
    have e := e.drawn (shF B.1 W k j)
    have e0 := e.1
    have s0 := e.2.1.1
    have d0 := e.2.1.2.1.1
    have d1 := e.2.1.2.1.2.1
    have p0 := e.hp.1
    have p1 := hset_eq h (x + 123 + 1) (cI 40 (shF B.1 W k j))
    refine aw_aload_n hX dX9_due_26 rfl ?_
    refine gt_X9_10 hX dX9_due_27 (by assumption) (by exact rfl) ?_
    refine gt_X9_66 hX dX9_due_30 (by assumption) (by exact rfl) ?_
    refine aw_aload_n hX dX9_due_33 rfl ?_
    refine gt_X9_29 hX dX9_due_34 (by assumption) (by exact rfl) ?_
    refine gt_X9_151 hX dX9_due_37 (by assumption) (by exact rfl) ?_
    refine aw_aload_n hX dX9_due_40 rfl ?_
    refine gt_X9_10 hX dX9_due_41 (by assumption) (by exact rfl) ?_
    refine gt_X9_66 hX dX9_due_44 (by assumption) (by exact rfl) ?_
    refine gt_X9_212 hX dX9_due_47 (by assumption) (by exact rfl) ?_
    refine aw_callVp hX RX9 rfl (tX0_differing _ _ _ e.2.1.2.1 p1 d1) rfl mf_X0_differing mi_X0_differing ms_X0_differing kl_X9_247 (by assumption) rfl rfl (by decide) (Nat.le_of_ble_eq_true rfl) dX9_due_50 (by decide) ?_
    exact aw_iret hX rfl rfl rfl rfl dX9_due_53 (by exact ⟨rfl, e, by repeat first | exact Sm.rf | refine Sm.set ?_ (by omega) (by omega)⟩)
  · refine aw_sipush hX (-1001) dX9_due_9 (by decide) ?_
    exact aw_iret hX rfl rfl rfl rfl dX9_due_12 (by rw [fDue, if_neg (bI_eq0.mp c_6)]; exact ⟨rfl, e, Sm.rf⟩)
theorem tX9_between (l : Launch) (E : EV) (n : Nat) (H : HB h x B) {W P o : Nat} (hV : VW B.1 W P o) (a b : Int32) : MX9_between l E n h [.ref x, .int a, .int b] (PB x h (fBetween B W a b, B)) := by
  obtain ⟨v1, v2, hS, -⟩ := hV
  have e := H
  obtain ⟨e0, ev, -⟩ := H
  have s0 := ev.1
  have d0 := ev.2.1.1
  have c0 := ev.2.2.2.1.1
  have p0 := e.hp.1
  have hK8 : (BS B).2.2.2.2 ≤ 8 := hS.1
  have hp := e.hp
  obtain ⟨p0, ⟨f0, p1⟩, g0, p2⟩ := e.hp
  refine AM.intro mf_X9_between (by simp [Value.category]) (Nat.le_of_ble_eq_true rfl) (fun X hl hE hnm hX => ?_)
  subst hl
  subst hE
  show AW X _ _ 0 0 0 [some (.ref x), some (.int a), some (.int b)] []
  refine aw_aload_n hX dX9_between_0 rfl ?_
  refine gt_X9_10 hX dX9_between_1 (by assumption) (by exact rfl) ?_
  refine gt_X9_100 hX dX9_between_4 (by assumption) (by exact rfl) ?_
  refine aw_iload_n hX dX9_between_7 rfl ?_
  refine aw_callVp hX RX9 rfl (tX7_hasMessage _ _ _ ev.2.2.2.1 a) rfl mf_X7_hasMessage mi_X7_hasMessage ms_X7_hasMessage kl_X9_123 (by assumption) rfl rfl (by decide) (Nat.le_of_ble_eq_true rfl) dX9_between_8 (by decide) ?_
  refine aw_if_eq hX 28 dX9_between_11 (by decide) (fun c_11 => ?_) (fun c_11 => ?_)
  · refine aw_sipush hX (-1001) dX9_between_28 (by decide) ?_
    exact aw_iret hX rfl rfl rfl rfl dX9_between_31 (by rw [fBetween, if_neg (fun q => bI_eq0.mp c_11 q.1)]; exact ⟨rfl, e, Sm.rf⟩)
  · refine aw_aload_n hX dX9_between_14 rfl ?_
    refine gt_X9_10 hX dX9_between_15 (by assumption) (by exact rfl) ?_
    refine gt_X9_100 hX dX9_between_18 (by assumption) (by exact rfl) ?_
    refine aw_iload_n hX dX9_between_21 rfl ?_
    refine aw_callVp hX RX9 rfl (tX7_hasMessage _ _ _ ev.2.2.2.1 b) rfl mf_X7_hasMessage mi_X7_hasMessage ms_X7_hasMessage kl_X9_123 (by assumption) rfl rfl (by decide) (Nat.le_of_ble_eq_true rfl) dX9_between_22 (by decide) ?_
    refine aw_if_ne hX 32 dX9_between_25 (by decide) (fun c_25 => ?_) (fun c_25 => ?_)
    · have hm := Decidable.not_not.mp (fun q => c_11 (bI_eq0.mpr q))
      have hc := Decidable.not_not.mp (fun q => c_25 (bI_eq0.mpr q))
      have hv := And.intro hm hc
      rw [fBetween, if_pos hv] at hX
      obtain ⟨k, hk, rfl⟩ := rng (BS B).2.2.2.2 (by omega) hm.1 hm.2.1
      have hkc : (nI k).toNatClampNeg = k := nI_clamp (by omega)
      obtain ⟨j, hj, rfl⟩ := rng (BS B).2.2.2.2 (by omega) hc.1 hc.2.1
      have hjc : (nI j).toNatClampNeg = j := nI_clamp (by omega)
      rw [hkc, hjc] at hX
      refine aw_aload_n hX dX9_between_32 rfl ?_
      refine gt_X9_29 hX dX9_between_33 (by assumption) (by exact rfl) ?_
      refine aw_aload_n hX dX9_between_36 rfl ?_
      refine gt_X9_10 hX dX9_between_37 (by assumption) (by exact rfl) ?_
      refine aw_iload_n hX dX9_between_40 rfl ?_
      refine aw_iconst hX (0) dX9_between_41 (by decide) ?_
      refine aw_aload_n hX dX9_between_42 rfl ?_
      refine gt_X9_29 hX dX9_between_43 (by assumption) (by exact rfl) ?_
      refine gt_X9_151 hX dX9_between_46 (by assumption) (by exact rfl) ?_
      refine aw_callV0 hX RX9 rfl (tX5_draw _ _ _ ev v1 v2.2 hS hk (s := 0) (by decide) (by decide) (x + 123) p1 (by omega)) rfl mf_X5_draw mi_X5_draw ms_X5_draw kl_X9_236 (by assumption) rfl rfl (by decide) (Nat.le_of_ble_eq_true rfl) dX9_between_49 (by decide) (fun v_49 h_49 p_49 => ?_)
      obtain ⟨rfl, rfl⟩ := p_49
      have e := e.drawn (pF W (BS B) k 0)
      have e0 := e.1
      have s0 := e.2.1.1
      have p0 := e.hp.1
      have p1 := hset_eq h (x + 123 + 1) (cI 40 (pF W (BS B) k 0))
      have d0 := e.2.1.2.1.1
      have p2 := (hset_ne h (q := x + 123 + 2) (a := x + 123 + 1) (cI 40 (pF W (BS B) k 0)) (by omega)).trans p2
      refine aw_aload_n hX dX9_between_52 rfl ?_
      refine gt_X9_29 hX dX9_between_53 (by assumption) (by exact rfl) ?_
      refine aw_aload_n hX dX9_between_56 rfl ?_
      refine gt_X9_10 hX dX9_between_57 (by assumption) (by exact rfl) ?_
      refine aw_iload_n hX dX9_between_60 rfl ?_
      refine aw_iconst hX (0) dX9_between_61 (by decide) ?_
      refine aw_aload_n hX dX9_between_62 rfl ?_
      refine gt_X9_29 hX dX9_between_63 (by assumption) (by exact rfl) ?_
      refine gt_X9_253 hX dX9_between_66 (by assumption) (by exact rfl) ?_
      refine aw_callV0 hX RX9 rfl (tX5_draw _ _ _ e.2.1 v1 v2.2 hS hj (s := 0) (by decide) (by decide) (x + 123) p2 (by omega)) rfl mf_X5_draw mi_X5_draw ms_X5_draw kl_X9_236 (by assumption) rfl rfl (by decide) (Nat.le_of_ble_eq_true rfl) dX9_between_69 (by decide) (fun v_69 h_69 p_69 => ?_)
      obtain ⟨rfl, rfl⟩ := p_69
      have e := e.drawn2 (pF W (BS B) j 0)
      have e0 := e.1
      have s0 := e.2.1.1
      have d0 := e.2.1.2.1.1
      have p0 := e.hp.1
      have p1 := (hset_ne _ (q := x + 123 + 1) (a := x + 123 + 2) (cI 40 (pF W (BS B) j 0)) (by omega)).trans p1
      have p2 := hset_eq (hset h (x + 123 + 1) (cI 40 (pF W (BS B) k 0))) (x + 123 + 2) (cI 40 (pF W (BS B) j 0))
      refine aw_aload_n hX dX9_between_72 rfl ?_
      refine gt_X9_10 hX dX9_between_73 (by assumption) (by exact rfl) ?_
      refine gt_X9_66 hX dX9_between_76 (by assumption) (by exact rfl) ?_
      refine aw_aload_n hX dX9_between_79 rfl ?_
      refine gt_X9_29 hX dX9_between_80 (by assumption) (by exact rfl) ?_
      refine gt_X9_151 hX dX9_between_83 (by assumption) (by exact rfl) ?_
      refine aw_aload_n hX dX9_between_86 rfl ?_
      refine gt_X9_29 hX dX9_between_87 (by assumption) (by exact rfl) ?_
      refine gt_X9_253 hX dX9_between_90 (by assumption) (by exact rfl) ?_
      refine aw_callVp hX RX9 rfl (tX0_differing _ _ _ e.2.1.2.1 p1 p2) rfl mf_X0_differing mi_X0_differing ms_X0_differing kl_X9_247 (by assumption) rfl rfl (by decide) (Nat.le_of_ble_eq_true rfl) dX9_between_93 (by decide) ?_
      exact aw_iret hX rfl rfl rfl rfl dX9_between_96 (by exact ⟨rfl, e, by repeat first | exact Sm.rf | refine Sm.set ?_ (by omega) (by omega)⟩)
    · refine aw_sipush hX (-1001) dX9_between_28 (by decide) ?_
      exact aw_iret hX rfl rfl rfl rfl dX9_between_31 (by rw [fBetween, if_neg (fun q => bI_eq0.mp c_25 q.2)]; exact ⟨rfl, e, Sm.rf⟩)
end C4
