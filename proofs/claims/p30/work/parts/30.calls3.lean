/-! showing, passing, loading -/
def secN (P o : Nat) : Nat → PV → PV
  | 0, v => v
  | k + 1, v => secF (secN P o k v) P o
theorem secN_VW {v : PV} {W P o : Nat} (H : VW v W P o) : ∀ k, VW (secN P o k v) W P o
  | 0 => H
  | k + 1 => secF_VW (secN_VW H k)
theorem secN_K (v : PV) (P o : Nat) : ∀ k, (secN P o k v).1.1 = v.1.1 ∧ (secN P o k v).2.2 = v.2.2 ∧ (secN P o k v).2.1.2.2.2.1 = v.2.1.2.2.2.1 + k
  | 0 => ⟨rfl, rfl, rfl⟩
  | k + 1 => by
    obtain ⟨h1, h2, h3⟩ := secN_K v P o k
    obtain ⟨g1, g2, g3⟩ := secF_K (secN P o k v) P o
    exact ⟨g1.trans h1, g2.trans h2, g3.trans (by rw [h3]; omega)⟩
abbrev wmF (S : SV) (m w : Int32) : Prop := (0 ≤ m ∧ m < nI S.2.2.2.2 ∧ m < 8) ∧ 0 ≤ w ∧ w ≤ 1
def shF (v : PV) (W m w : Nat) : IF := pF W v.2.2.1 m (if w = 1 then bestF v W m else 0)
def fShow (B : FV) (W : Nat) (m w : Int32) : Int32 × FV :=
  if wmF (BS B) m w then (dueN (aimD B.1 (shF B.1 W m.toNatClampNeg w.toNatClampNeg), B.1.2), setD B (aimD B.1 (shF B.1 W m.toNatClampNeg w.toNatClampNeg))) else (-1001, B)
def fPass (B : FV) (P o : Nat) (s : Int32) : Int32 × FV :=
  if 1 ≤ s ∧ s ≤ 200 then (dueN (secN P o s.toNatClampNeg B.1), (secN P o s.toNatClampNeg B.1, keepF B.2.1 B.1, B.2.2)) else (-1001, B)
def fPicture (B : FV) (W : Nat) (m s c : Int32) : Int32 :=
  if (0 ≤ m ∧ m < nI (BS B).2.2.2.2 ∧ m < 8) ∧ 0 ≤ c ∧ c < B.1.1.1 ∧ c < 40 then (if -2 ≤ s ∧ s ≤ 2 then pF W (BS B) m.toNatClampNeg s.toInt c.toNatClampNeg else -1001) else -1001
def fBestShift (B : FV) (W : Nat) (m : Int32) : Int32 := if 0 ≤ m ∧ m < nI (BS B).2.2.2.2 ∧ m < 8 then iI (bestF B.1 W m.toNatClampNeg) else -1001
def fDue (B : FV) (W : Nat) (m w : Int32) : Int32 := if wmF (BS B) m w then dfF B.1 (shF B.1 W m.toNatClampNeg w.toNatClampNeg) B.1.1.2.1 else -1001
def fBetween (B : FV) (W : Nat) (a b : Int32) : Int32 :=
  if (0 ≤ a ∧ a < nI (BS B).2.2.2.2 ∧ a < 8) ∧ 0 ≤ b ∧ b < nI (BS B).2.2.2.2 ∧ b < 8 then dfF B.1 (pF W (BS B) a.toNatClampNeg 0) (pF W (BS B) b.toNatClampNeg 0) else -1001
section C4
variable {h : HP} {x : Nat} {B : FV}
theorem HB.hp (H : HB h x B) : HPaint h (x + 123) := by
  obtain ⟨-, -, -, -, tr, R, O, g1, g2, -⟩ := H
  exact g2
theorem HB.hf (H : HB h x B) : HFlip h (x + 126) := by
  obtain ⟨-, -, -, -, tr, R, O, g1, g2, g3, -⟩ := H
  exact g3
theorem HB.drawn (H : HB h x B) (f : IF) : HB (hset h (x + 123 + 1) (cI 40 f)) x B := by
  have s : Sm (x + 123 + 1) (x + 123 + 2) h (hset h (x + 123 + 1) (cI 40 f)) := Sm.rf.set (Nat.le_refl _) (Nat.lt_succ_self _)
  obtain ⟨tr, R, O, g1, g2, g3, g4, g5, g6⟩ := H.2.2.2.2
  exact H.scr (tr := tr) (R := R) (O := O) ⟨g1.sm s (by omega), g2.a1 f, g3.sm s (by omega), g4.sm s (by omega), g5.sm s (by omega), g6⟩ s (by omega) (by omega)
theorem HB.drawn2 (H : HB h x B) (f : IF) : HB (hset h (x + 123 + 2) (cI 40 f)) x B := by
  have s : Sm (x + 123 + 2) (x + 123 + 3) h (hset h (x + 123 + 2) (cI 40 f)) := Sm.rf.set (Nat.le_refl _) (Nat.lt_succ_self _)
  obtain ⟨tr, R, O, g1, g2, g3, g4, g5, g6⟩ := H.2.2.2.2
  exact H.scr (tr := tr) (R := R) (O := O) ⟨g1.sm s (by omega), g2.a2 f, g3.sm s (by omega), g4.sm s (by omega), g5.sm s (by omega), g6⟩ s (by omega) (by omega)
theorem HB.flipd (H : HB h x B) (f : IF) : HB (hset h (x + 126 + 1) (cI 40 f)) x B := by
  have s : Sm (x + 126 + 1) (x + 126 + 2) h (hset h (x + 126 + 1) (cI 40 f)) := Sm.rf.set (Nat.le_refl _) (Nat.lt_succ_self _)
  obtain ⟨tr, R, O, g1, g2, g3, g4, g5, g6⟩ := H.2.2.2.2
  exact H.scr (tr := tr) (R := R) (O := O) ⟨g1.sm s (by omega), g2.sm s (by omega), g3.a1 f, g4.sm s (by omega), g5.sm s (by omega), g6⟩ s (by omega) (by omega)
theorem HB.read {h' : HP} (H : HB h x B) {R : RV} (H' : HRead h' (x + 128) R) (s : Sm (x + 128) (x + 128 + 6) h h') (h1 : R.2.2.2.1 < 26) (h2 : R.2.2.2.2 ≤ 7) : HB h' x B := by
  obtain ⟨tr, R0, O, g1, g2, g3, g4, g5, g6, g7⟩ := H.2.2.2.2
  exact H.scr (tr := tr) (R := R) (O := O) ⟨g1.sm s (by omega), g2.sm s (by omega), g3.sm s (by omega), H', g5.sm s (by omega), ⟨h1, h2⟩, g7⟩ s (by omega) (by omega)
theorem HB.orde {h' : HP} (H : HB h x B) {O : OV} (H' : HOrd h' (x + 134) O) (s : Sm (x + 134) (x + 134 + 49) h h') (h1 : ∀ j, j < 6 → O.2.2.2.1 0 j = 0) : HB h' x B := by
  obtain ⟨tr, R, O0, g1, g2, g3, g4, g5, g6, g7⟩ := H.2.2.2.2
  exact H.scr (tr := tr) (R := R) (O := O) ⟨g1.sm s (by omega), g2.sm s (by omega), g3.sm s (by omega), g4.sm s (by omega), H', g6, h1⟩ s (by omega) (by omega)
theorem HB.tria {h' : HP} (H : HB h x B) {tr : PV} (H' : HState h' (x + 16) tr) (s : Sm (x + 16) (x + 16 + 15) h h') : HB h' x B := by
  obtain ⟨h1, h2, h3, h4, tr0, R, O, g1, g2, g3, g4, g5, g6⟩ := H
  exact ⟨(s.at (by omega)).trans h1, h2.sm s (by omega), h3.sm s (by omega), (s.at (by omega)).trans h4, tr, R, O, H', g2.sm s (by omega), g3.sm s (by omega), g4.sm s (by omega), g5.sm s (by omega), g6⟩
theorem tX9_canShow (l : Launch) (E : EV) (n : Nat) (H : HB h x B) (m w : Int32) : MX9_canShow l E n h [.ref x, .int m, .int w] (PR (.int (bI (wmF (BS B) m w))) h) := by
  obtain ⟨e0, ev, -⟩ := H
  have s0 := ev.1
  have c0 := ev.2.2.2.1.1
  refine AM.intro mf_X9_canShow (by simp [Value.category]) (Nat.le_of_ble_eq_true rfl) (fun X hl hE hnm hX => ?_)
  subst hl
  subst hE
  show AW X _ _ 0 0 0 [some (.ref x), some (.int m), some (.int w)] []
  refine aw_aload_n hX dX9_canShow_0 rfl ?_
  refine gt_X9_10 hX dX9_canShow_1 (by assumption) (by exact rfl) ?_
  refine gt_X9_100 hX dX9_canShow_4 (by assumption) (by exact rfl) ?_
  refine aw_iload_n hX dX9_canShow_7 rfl ?_
  refine aw_callVp hX RX9 rfl (tX7_hasMessage _ _ _ ev.2.2.2.1 m) rfl mf_X7_hasMessage mi_X7_hasMessage ms_X7_hasMessage kl_X9_123 (by assumption) rfl rfl (by decide) (Nat.le_of_ble_eq_true rfl) dX9_canShow_8 (by decide) ?_
  refine aw_if_eq hX 27 dX9_canShow_11 (by decide) (fun c_11 => ?_) (fun c_11 => ?_)
  · refine aw_iconst hX (0) dX9_canShow_27 (by decide) ?_
    exact aw_zret hX rfl (Or.inl rfl) rfl rfl rfl dX9_canShow_28 (prF (fun q => bI_eq0.mp c_11 q.1))
  · refine aw_iload_n hX dX9_canShow_14 rfl ?_
    refine aw_if_lt hX 27 dX9_canShow_15 (by decide) (fun c_15 => ?_) (fun c_15 => ?_)
    · refine aw_iconst hX (0) dX9_canShow_27 (by decide) ?_
      exact aw_zret hX rfl (Or.inl rfl) rfl rfl rfl dX9_canShow_28 (prF (fun q => Int32.not_le.mpr c_15 q.2.1))
    · refine aw_iload_n hX dX9_canShow_18 rfl ?_
      refine aw_iconst hX (1) dX9_canShow_19 (by decide) ?_
      refine aw_icmp_gt hX 27 dX9_canShow_20 (by decide) (fun c_20 => ?_) (fun c_20 => ?_)
      · refine aw_iconst hX (0) dX9_canShow_27 (by decide) ?_
        exact aw_zret hX rfl (Or.inl rfl) rfl rfl rfl dX9_canShow_28 (prF (fun q => Int32.not_le.mpr c_20 q.2.2))
      · refine aw_iconst hX (1) dX9_canShow_23 (by decide) ?_
        refine aw_goto hX 28 dX9_canShow_24 (by decide) ?_
        exact aw_zret hX rfl (by first | exact Or.inl rfl | exact Or.inr rfl | assumption) rfl rfl rfl dX9_canShow_28 (by exact prT ⟨Decidable.not_not.mp (fun q => c_11 (bI_eq0.mpr q)), Int32.not_lt.mp c_15, Int32.not_lt.mp c_20⟩)
theorem wm_ex {S : SV} (hK : S.2.2.2.2 ≤ 8) {m w : Int32} (H : wmF S m w) : (∃ k, k < S.2.2.2.2 ∧ m = nI k) ∧ ∃ j, j ≤ 1 ∧ w = nI j := by
  obtain ⟨h1, h2, h3⟩ := H
  have q := Int32.le_iff_toInt_le.mp h3
  have q1 : (1 : Int32).toInt = 1 := by decide
  have q2 : (nI 2).toInt = 2 := by decide
  obtain ⟨j, hj, e⟩ := rng 2 (by decide) h2 (by rw [Int32.lt_iff_toInt_lt]; omega)
  exact ⟨rng _ (by omega) h1.1 h1.2.1, j, by omega, e⟩
theorem tX9_show (l : Launch) (E : EV) (n : Nat) (H : HB h x B) {W P o : Nat} (hV : VW B.1 W P o) (m w : Int32) : MX9_show l E n h [.ref x, .int m, .int w] (PB x h (fShow B W m w)) := by
  obtain ⟨v1, v2, hS, -⟩ := hV
  have e := H
  obtain ⟨e0, ev, ⟨f, vs, hf, hz, eh, hs⟩, et, -⟩ := H
  have h0 := eh.1
  refine AM.intro mf_X9_show (by simp [Value.category]) (Nat.le_of_ble_eq_true rfl) (fun X hl hE hnm hX => ?_)
  subst hl
  subst hE
  show AW X _ _ 0 0 0 [some (.ref x), some (.int m), some (.int w)] []
  refine aw_aload_n hX dX9_show_0 rfl ?_
  refine aw_iload_n hX dX9_show_1 rfl ?_
  refine aw_iload_n hX dX9_show_2 rfl ?_
  refine aw_callVp hX RX9 rfl (tX9_canShow _ _ _ e m w) rfl mf_X9_canShow mi_X9_canShow ms_X9_canShow kl_X9_143 (by assumption) rfl rfl (by decide) (Nat.le_of_ble_eq_true rfl) dX9_show_3 (by decide) ?_
  refine aw_if_ne hX 13 dX9_show_6 (by decide) (fun c_6 => ?_) (fun c_6 => ?_)
  · have hv := Decidable.not_not.mp (fun q => c_6 (bI_eq0.mpr q))
    obtain ⟨⟨k, hk, rfl⟩, j, hj, rfl⟩ := wm_ex hS.1 hv
    have hkc : (nI k).toNatClampNeg = k := nI_clamp (by have := hS.1; omega)
    have hjc : (nI j).toNatClampNeg = j := nI_clamp (by omega)
    refine aw_aload_n hX dX9_show_13 rfl ?_
    refine gt_X9_22 hX dX9_show_14 (by assumption) (by exact rfl) ?_
    refine aw_aload_n hX dX9_show_17 rfl ?_
    refine gt_X9_10 hX dX9_show_18 (by assumption) (by exact rfl) ?_
    refine aw_callV0 hX RX9 rfl (tX2_keep _ _ _ eh hf hz ev (by omega)) rfl mf_X2_keep mi_X2_keep ms_X2_keep kl_X9_62 (by assumption) rfl rfl (by decide) (Nat.le_of_ble_eq_true rfl) dX9_show_21 (by decide) (fun v_21 h_21 p_21 => ?_)
    obtain ⟨rfl, hh, sm⟩ := p_21
    have e := e.kept hf hz hs hh sm
    have sm := Sm.tr (lo := x) (hi := x + 184) Sm.rf sm (by omega) (by omega)
    have e0 := e.1
    have s0 := e.2.1.1
    have d0 := e.2.1.2.1.1
    have m0 := e.2.1.2.2.1.1
    have c0 := e.2.1.2.2.2.1.1
    have n0 := e.2.1.2.2.2.2
    have p0 := e.hp.1
    refine aw_aload_n hX dX9_show_24 rfl ?_
    refine gt_X9_29 hX dX9_show_25 (by assumption) (by exact rfl) ?_
    refine aw_aload_n hX dX9_show_28 rfl ?_
    refine gt_X9_10 hX dX9_show_29 (by assumption) (by exact rfl) ?_
    refine aw_iload_n hX dX9_show_32 rfl ?_
    refine aw_iload_n hX dX9_show_33 rfl ?_
    refine aw_callV0 hX RX9 rfl (tX5_drawAs _ _ _ e.2.1 v1 v2.2 hS hk e.hp (by omega) hj) rfl mf_X5_drawAs mi_X5_drawAs ms_X5_drawAs kl_X9_147 (by assumption) rfl rfl (by decide) (Nat.le_of_ble_eq_true rfl) dX9_show_34 (by decide) (fun v_34 h_34 p_34 => ?_)
    obtain ⟨rfl, rfl⟩ := p_34
    have e := e.drawn (shF B.1 W k j)
    have sm := sm.set (a := x + 123 + 1) (c := cI 40 (shF B.1 W k j)) (by omega) (by omega)
    have e0 := e.1
    have s0 := e.2.1.1
    have d0 := e.2.1.2.1.1
    have p0 := e.hp.1
    have p1 := hset_eq h_21 (x + 123 + 1) (cI 40 (shF B.1 W k j))
    refine aw_aload_n hX dX9_show_37 rfl ?_
    refine gt_X9_10 hX dX9_show_38 (by assumption) (by exact rfl) ?_
    refine gt_X9_66 hX dX9_show_41 (by assumption) (by exact rfl) ?_
    refine aw_aload_n hX dX9_show_44 rfl ?_
    refine gt_X9_29 hX dX9_show_45 (by assumption) (by exact rfl) ?_
    refine gt_X9_151 hX dX9_show_48 (by assumption) (by exact rfl) ?_
    refine aw_callV0 hX RX9 rfl (tX0_aimAt _ _ _ e.2.1.2.1 p1) rfl mf_X0_aimAt mi_X0_aimAt ms_X0_aimAt kl_X9_154 (by assumption) rfl rfl (by decide) (Nat.le_of_ble_eq_true rfl) dX9_show_51 (by decide) (fun v_51 h_51 p_51 => ?_)
    obtain ⟨rfl, q, s2⟩ := p_51
    have e := e.dots (D := aimD B.1 (shF B.1 W k j)) q s2
    have sm := sm.tr s2 (by omega) (by omega)
    have e0 := e.1
    have s0 := e.2.1.1
    have d0 := e.2.1.2.1.1
    refine aw_aload_n hX dX9_show_54 rfl ?_
    refine gt_X9_10 hX dX9_show_55 (by assumption) (by exact rfl) ?_
    refine gt_X9_66 hX dX9_show_58 (by assumption) (by exact rfl) ?_
    refine aw_callVp hX RX9 rfl (tX0_dueDots _ _ _ e.2.1.2.1) rfl mf_X0_dueDots mi_X0_dueDots ms_X0_dueDots kl_X9_158 (by assumption) rfl rfl (by decide) (Nat.le_of_ble_eq_true rfl) dX9_show_61 (by decide) ?_
    exact aw_iret hX rfl rfl rfl rfl dX9_show_64 (by rw [fShow, hkc, hjc, if_pos hv]; exact ⟨rfl, e, sm⟩)
  · refine aw_sipush hX (-1001) dX9_show_9 (by decide) ?_
    exact aw_iret hX rfl rfl rfl rfl dX9_show_12 (by rw [fShow, if_neg (bI_eq0.mp c_6)]; exact ⟨rfl, e, Sm.rf⟩)
theorem tX9_pass (l : Launch) (E : EV) (n : Nat) (H : HB h x B) {W P o : Nat} (hV : VW B.1 W P o) (hT : B.1.2.1.2.2.2.1 + 200 < 2 ^ 30) (s : Int32) : MX9_pass l E n h [.ref x, .int s] (PB x h (fPass B P o s)) := by
  have e := H
  obtain ⟨e0, ev, ⟨f, vs, hf, hz, eh, hs⟩, et, -⟩ := H
  have h0 := eh.1
  by_cases hv : 1 ≤ s ∧ s ≤ 200
  · obtain ⟨k, hk, rfl⟩ := rng 256 (by decide) (x := s) (Int32.le_trans (by decide) hv.1) (Int32.lt_of_le_of_lt hv.2 (by decide))
    have hkc : (nI k).toNatClampNeg = k := nI_clamp (by omega)
    have hk200 : k ≤ 200 := (nI_leI (a := k) (b := 200) (by omega) (by decide)).mp hv.2
    rw [fPass, hkc, if_pos hv]
    refine AM.intro mf_X9_pass (by simp [Value.category]) (Nat.le_of_ble_eq_true rfl) (fun X hl hE hnm hX => ?_)
    subst hl
    subst hE
    show AW X _ _ 0 0 0 [some (.ref x), some (.int (nI k)), none] []
    have loop : ∀ (g j : Nat) (hh : HP), j ≤ k → k - j < g → HB hh x (secN P o j B.1, keepF B.2.1 B.1, B.2.2) → Sm x (x + 184) h hh → AW X n hh 0 0 29 [some (.ref x), some (.int (nI k)), some (.int (nI j))] [] := by
      intro g
      induction g with
      | zero => intro j hh h1 h2; omega
      | succ g ih =>
        intro j hh h1 h2 e sm
        have e0 := e.1
        have s0 := e.2.1.1
        have d0 := e.2.1.2.1.1
        have f0 := e.hf.1
        obtain ⟨u1, u2, u3, ⟨u4, u5, u6⟩, ⟨u7, u8⟩, u9⟩ := secN_VW hV j
        have hT2 := (secN_K B.1 P o j).2.2
        refine aw_iload_n hX dX9_pass_29 rfl ?_
        refine aw_iload_n hX dX9_pass_30 rfl ?_
        refine aw_icmp_ge hX 51 dX9_pass_31 (by decide) (fun c_31 => ?_) (fun c_31 => ?_)
        · have n_31 : k ≤ j := (nI_leI (a := k) (b := j) (by omega) (by omega)).mp c_31
          have hj : j = k := by omega
          subst hj
          refine aw_aload_n hX dX9_pass_51 rfl ?_
          refine gt_X9_10 hX dX9_pass_52 (by assumption) (by exact rfl) ?_
          refine gt_X9_66 hX dX9_pass_55 (by assumption) (by exact rfl) ?_
          refine aw_callVp hX RX9 rfl (tX0_dueDots _ _ _ e.2.1.2.1) rfl mf_X0_dueDots mi_X0_dueDots ms_X0_dueDots kl_X9_158 (by assumption) rfl rfl (by decide) (Nat.le_of_ble_eq_true rfl) dX9_pass_58 (by decide) ?_
          exact aw_iret hX rfl rfl rfl rfl dX9_pass_61 (by exact ⟨rfl, e, sm⟩)
        · have n_31 : ¬ k ≤ j := fun q_ => c_31 ((nI_leI (a := k) (b := j) (by omega) (by omega)).mpr q_)
          refine aw_aload_n hX dX9_pass_34 rfl ?_
          refine gt_X9_36 hX dX9_pass_35 (by assumption) (by exact rfl) ?_
          refine aw_aload_n hX dX9_pass_38 rfl ?_
          refine gt_X9_10 hX dX9_pass_39 (by assumption) (by exact rfl) ?_
          refine aw_callV0 hX RX9 rfl (tX1_passSecond _ _ _ e.2.1 u1 e.hf (by omega) u9.len u4 u7 u6 u8 (by rw [hT2]; omega) (fun i hi => u9.ord o hi)) rfl mf_X1_passSecond mi_X1_passSecond ms_X1_passSecond kl_X9_182 (by assumption) rfl rfl (by decide) (Nat.le_of_ble_eq_true rfl) dX9_pass_42 (by decide) (fun v_42 h_42 p_42 => ?_)
          obtain ⟨rfl, q, f, s2⟩ := p_42
          have e := (e.flipd f).now q s2
          have sm := (sm.set (a := x + 126 + 1) (c := cI 40 f) (by omega) (by omega)).tr s2 (by omega) (by omega)
          refine aw_iinc hX (nI (j + 1)) dX9_pass_45 rfl (nI_1 j) ?_
          refine aw_goto hX 29 dX9_pass_48 (by decide) ?_
          exact ih (j + 1) _ (by omega) (by omega) e sm
    refine aw_iload_n hX dX9_pass_0 rfl ?_
    refine aw_iconst hX (1) dX9_pass_1 (by decide) ?_
    refine aw_icmp_lt hX 12 dX9_pass_2 (by decide) (fun c_2 => ?_) (fun c_2 => ?_)
    · exact absurd hv.1 (Int32.not_le.mpr c_2)
    · refine aw_iload_n hX dX9_pass_5 rfl ?_
      refine aw_sipush hX (200) dX9_pass_6 (by decide) ?_
      refine aw_icmp_le hX 16 dX9_pass_9 (by decide) (fun c_9 => ?_) (fun c_9 => ?_)
      · refine aw_aload_n hX dX9_pass_16 rfl ?_
        refine gt_X9_22 hX dX9_pass_17 (by assumption) (by exact rfl) ?_
        refine aw_aload_n hX dX9_pass_20 rfl ?_
        refine gt_X9_10 hX dX9_pass_21 (by assumption) (by exact rfl) ?_
        refine aw_callV0 hX RX9 rfl (tX2_keep _ _ _ eh hf hz ev (by omega)) rfl mf_X2_keep mi_X2_keep ms_X2_keep kl_X9_62 (by assumption) rfl rfl (by decide) (Nat.le_of_ble_eq_true rfl) dX9_pass_24 (by decide) (fun v_24 h_24 p_24 => ?_)
        obtain ⟨rfl, hh, sm⟩ := p_24
        have e := e.kept hf hz hs hh sm
        have sm := Sm.tr (lo := x) (hi := x + 184) Sm.rf sm (by omega) (by omega)
        have e0 := e.1
        have s0 := e.2.1.1
        have d0 := e.2.1.2.1.1
        have m0 := e.2.1.2.2.1.1
        have c0 := e.2.1.2.2.2.1.1
        have n0 := e.2.1.2.2.2.2
        refine aw_iconst hX (0) dX9_pass_27 (by decide) ?_
        refine aw_istore_n hX dX9_pass_28 (Nat.le_of_ble_eq_true rfl) ?_
        exact loop (k + 1) 0 _ (by omega) (by omega) e sm
      · exact absurd hv.2 c_9
  · rw [fPass, if_neg hv]
    refine AM.intro mf_X9_pass (by simp [Value.category]) (Nat.le_of_ble_eq_true rfl) (fun X hl hE hnm hX => ?_)
    subst hl
    subst hE
    show AW X _ _ 0 0 0 [some (.ref x), some (.int s), none] []
    refine aw_iload_n hX dX9_pass_0 rfl ?_
    refine aw_iconst hX (1) dX9_pass_1 (by decide) ?_
    refine aw_icmp_lt hX 12 dX9_pass_2 (by decide) (fun c_2 => ?_) (fun c_2 => ?_)
    · refine aw_sipush hX (-1001) dX9_pass_12 (by decide) ?_
      exact aw_iret hX rfl rfl rfl rfl dX9_pass_15 (by exact ⟨rfl, e, Sm.rf⟩)
    · refine aw_iload_n hX dX9_pass_5 rfl ?_
      refine aw_sipush hX (200) dX9_pass_6 (by decide) ?_
      refine aw_icmp_le hX 16 dX9_pass_9 (by decide) (fun c_9 => ?_) (fun c_9 => ?_)
      · exact absurd (And.intro (Int32.not_lt.mp c_2) c_9) hv
      · refine aw_sipush hX (-1001) dX9_pass_12 (by decide) ?_
        exact aw_iret hX rfl rfl rfl rfl dX9_pass_15 (by exact ⟨rfl, e, Sm.rf⟩)
end C4
