/-! the reference: seconds pass, seconds are foreseen -/
def AG4 (y : Nat) (h h' : HP) : Prop := ∀ q, ¬ q = y + 1 → ¬ q = y + 4 → ¬ q = y + 6 → ¬ q = y + 8 → h' q = h q
theorem AG4.rf {y : Nat} {h : HP} : AG4 y h h := fun _ _ _ _ _ => rfl
theorem AG4.set {y : Nat} {h h' : HP} (H : AG4 y h h') (a : Nat) (c : AC) (ha : a = y + 1 ∨ a = y + 4 ∨ a = y + 6 ∨ a = y + 8) : AG4 y h (hset h' a c) := fun q h1 h2 h3 h4 => (hset_ne _ _ (by omega)).trans (H q h1 h2 h3 h4)
theorem AG4.two {y : Nat} {h h1 h2 : HP} (H : AG4 y h h1) (G : AG2 y h1 h2) : AG4 y h h2 := fun q i1 i2 i3 i4 => (G q i1 i4).trans (H q i1 i2 i3 i4)
theorem AG4.sm {y : Nat} {h h' : HP} (H : AG4 y h h') : Sm y (y + 13) h h' := by
  intro q hq
  exact H q (by omega) (by omega) (by omega) (by omega)
theorem AG2.sm {y : Nat} {h h' : HP} (H : AG2 y h h') : Sm y (y + 13) h h' := by
  intro q hq
  exact H q (by omega) (by omega)
theorem dueN_in {v : PV} (hB : BO v) : ∃ j, j ≤ 280 ∧ dueN v = nI j := sumI_le 40 (fun c hc => (((hB c hc).2.1.xor (hB c hc).1).and _).bc)
section REF14
variable {h : HP} {y : Nat} {B : FV} {W P o : Nat} {s : IF} {v : PV}
theorem SCR.ag2 {h' : HP} (H : SCR h y) (e : AG2 y h h') (hf : ∃ f, h' (y + 8) = some (cI 40 f)) : SCR h' y := by
  obtain ⟨⟨f1, h1⟩, ⟨f2, h2⟩, -, ⟨f4, h4⟩, ⟨f5, h5⟩, ⟨f6, h6⟩, ⟨f7, h7⟩, ⟨f8, h8⟩, ⟨f9, h9⟩⟩ := H
  exact ⟨⟨f1, (e _ (by omega) (by omega)).trans h1⟩, ⟨f2, (e _ (by omega) (by omega)).trans h2⟩, hf, ⟨f4, (e _ (by omega) (by omega)).trans h4⟩, ⟨f5, (e _ (by omega) (by omega)).trans h5⟩, ⟨f6, (e _ (by omega) (by omega)).trans h6⟩, ⟨f7, (e _ (by omega) (by omega)).trans h7⟩, ⟨f8, (e _ (by omega) (by omega)).trans h8⟩, ⟨f9, (e _ (by omega) (by omega)).trans h9⟩⟩
theorem HQ.sec {h' : HP} {s' : IF} (H : HQ h y s B W P o) (e : AG2 y h h') (hs : h' (y + 1) = some (cI 729 s')) (hf : ∃ f, h' (y + 8) = some (cI 40 f)) : HQ h' y s' B W P o := by
  obtain ⟨pa, sp, om, a, ⟨h0, h1⟩, h2, h3, h4, h5, h6⟩ := H
  exact ⟨pa, sp, om, a, ⟨(e _ (by omega) (by omega)).trans h0, hs⟩, h2.ag2 e hf, (e _ (by omega) (by omega)).trans h3, (e _ (by omega) (by omega)).trans h4, (e _ (by omega) (by omega)).trans h5, h6⟩
theorem tX10_pass (l : Launch) (E : EV) (n : Nat) (H : HR h y B W P o) (x : Int32) : MX10_pass l E n h [.ref y, .int x] (PM y h (fPass B P o x)) := by
  have e := H
  obtain ⟨s, q⟩ := H
  obtain ⟨pa, sp, om, g1, g2, g3, g4, g5, g6, g7⟩ := id q
  obtain ⟨e0, e1⟩ := id g1
  by_cases hv : 1 ≤ x ∧ x ≤ 200
  · obtain ⟨k, hk, rfl⟩ := rng 256 (by decide) (x := x) (Int32.le_trans (by decide) hv.1) (Int32.lt_of_le_of_lt hv.2 (by decide))
    have hkc : (nI k).toNatClampNeg = k := nI_clamp (by omega)
    rw [fPass, hkc, if_pos hv]
    refine AM.intro mf_X10_pass (by simp [Value.category]) (Nat.le_of_ble_eq_true rfl) (fun X hl hE hnm hX => ?_)
    subst hl
    subst hE
    show AW X _ _ 0 0 0 [some (.ref y), some (.int (nI k)), none] []
    have loop : ∀ (z j : Nat) (s' : IF) (hh : HP), j ≤ k → k - j < z → HQ hh y s' B W P o → RI s' (secN P o j B.1) W P o → Sm y (y + 13) h hh → AW X n hh 0 0 21 [some (.ref y), some (.int (nI k)), some (.int (nI j))] [] := by
      intro z
      induction z with
      | zero => intro j s' hh h1 h2; omega
      | succ z ih =>
        intro j s' hh h1 h2 q R sm
        obtain ⟨ps, ty, sp2, om2, g1⟩ := q.n
        obtain ⟨e0, e1⟩ := id g1
        obtain ⟨f8, hf8⟩ := q.sc.2.2.1
        refine aw_iload_n hX dX10_pass_21 rfl ?_
        refine aw_iload_n hX dX10_pass_22 rfl ?_
        refine aw_icmp_ge hX 36 dX10_pass_23 (by decide) (fun c_23 => ?_) (fun c_23 => ?_)
        · have n_23 : k ≤ j := (nI_leI (a := k) (b := j) (by omega) (by omega)).mp c_23
          have hj : j = k := by omega
          subst hj
          refine aw_aload_n hX dX10_pass_36 rfl ?_
          refine aw_aload_n hX dX10_pass_37 rfl ?_
          refine aw_callVp hX RX10 rfl (tX10_dueMany _ _ _ g1 R.1 R.2.2.2 R.2.1.2.2.2.2.2) rfl mf_X10_dueMany mi_X10_dueMany ms_X10_dueMany kl_X10_145 (by assumption) rfl rfl (by decide) (Nat.le_of_ble_eq_true rfl) dX10_pass_38 (by decide) ?_
          refine aw_callV0 hX RX10 rfl (tX10_ends _ _ _ q R _) rfl mf_X10_ends mi_X10_ends ms_X10_ends kl_X10_103 (by assumption) rfl rfl (by decide) (Nat.le_of_ble_eq_true rfl) dX10_pass_41 (by decide) (fun v_41 h_41 p_41 => ?_)
          obtain ⟨rfl, q, s2⟩ := p_41
          exact aw_iret hX rfl rfl rfl rfl dX10_pass_44 (by exact ⟨rfl, ⟨_, _, _, q⟩, sm.tr s2 (Nat.le_refl _) (Nat.le_refl _)⟩)
        · have n_23 : ¬ k ≤ j := fun q => c_23 ((nI_leI (a := k) (b := j) (by omega) (by omega)).mpr q)
          refine aw_aload_n hX dX10_pass_26 rfl ?_
          refine aw_callV0 hX RX10 rfl (tX10_second _ _ _ g1 R hf8) rfl mf_X10_second mi_X10_second ms_X10_second kl_X10_151 (by assumption) rfl rfl (by decide) (Nat.le_of_ble_eq_true rfl) dX10_pass_27 (by decide) (fun v_27 h_27 p_27 => ?_)
          obtain ⟨rfl, s2, g2, R2, hf, ag⟩ := p_27
          refine aw_iinc hX (nI (j + 1)) dX10_pass_30 rfl (nI_1 j) ?_
          refine aw_goto hX 21 dX10_pass_33 (by decide) ?_
          exact ih (j + 1) s2 _ (by omega) (by omega) (q.sec ag g2.2 hf) R2 (sm.tr ag.sm (Nat.le_refl _) (Nat.le_refl _))
    refine aw_iload_n hX dX10_pass_0 rfl ?_
    refine aw_iconst hX (1) dX10_pass_1 (by decide) ?_
    refine aw_sipush hX (200) dX10_pass_2 (by decide) ?_
    refine aw_callSp hX RX10 rfl (tX10_in _ _ _ _ (nI k) 1 200) rfl mf_X10_in mt_X10_in kl_X10_96 rfl (by decide) (Nat.le_of_ble_eq_true rfl) dX10_pass_5 (by decide) ?_
    refine aw_if_ne hX 15 dX10_pass_8 (by decide) (fun c_8 => ?_) (fun c_8 => ?_)
    · refine aw_aload_n hX dX10_pass_15 rfl ?_
      refine aw_callV0 hX RX10 rfl (tX10_hold _ _ _ q) rfl mf_X10_hold mi_X10_hold ms_X10_hold kl_X10_100 (by assumption) rfl rfl (by decide) (Nat.le_of_ble_eq_true rfl) dX10_pass_16 (by decide) (fun v_16 h_16 p_16 => ?_)
      obtain ⟨rfl, q, sm⟩ := p_16
      refine aw_iconst hX (0) dX10_pass_19 (by decide) ?_
      refine aw_istore_n hX dX10_pass_20 (Nat.le_of_ble_eq_true rfl) ?_
      exact loop (k + 1) 0 s _ (by omega) (by omega) q g5 sm
    · refine aw_sipush hX (-1001) dX10_pass_11 (by decide) ?_
      exact aw_iret hX rfl rfl rfl rfl dX10_pass_14 (by exact absurd hv (bI_eq0.mp c_8))
  · rw [fPass, if_neg hv]
    refine AM.intro mf_X10_pass (by simp [Value.category]) (Nat.le_of_ble_eq_true rfl) (fun X hl hE hnm hX => ?_)
    subst hl
    subst hE
    show AW X _ _ 0 0 0 [some (.ref y), some (.int x), none] []
    refine aw_iload_n hX dX10_pass_0 rfl ?_
    refine aw_iconst hX (1) dX10_pass_1 (by decide) ?_
    refine aw_sipush hX (200) dX10_pass_2 (by decide) ?_
    refine aw_callSp hX RX10 rfl (tX10_in _ _ _ _ x 1 200) rfl mf_X10_in mt_X10_in kl_X10_96 rfl (by decide) (Nat.le_of_ble_eq_true rfl) dX10_pass_5 (by decide) ?_
    refine aw_if_ne hX 15 dX10_pass_8 (by decide) (fun c_8 => ?_) (fun c_8 => ?_)
    · exact absurd (Decidable.not_not.mp (fun q => c_8 (bI_eq0.mpr q))) hv
    · refine aw_sipush hX (-1001) dX10_pass_11 (by decide) ?_
      exact aw_iret hX rfl rfl rfl rfl dX10_pass_14 (by exact ⟨rfl, ⟨_, _, _, e⟩, Sm.rf⟩)
theorem tX10_aimsN (l : Launch) (E : EV) (n : Nat) {ps ty sp om : Nat} (H : HN h y s ps ty sp om) {f0 : IF} (p1 : h (y + 6) = some (cI 40 f0)) (R : RI s v W P o) {m w : Nat} (hm : m < v.2.2.1.2.2.2.2) (hw : w ≤ 1) : MX10_aims l E n h [.ref y, .int (nI m), .int (nI w)] (fun r h' => r = none ∧ ∃ s', HN h' y s' ps ty sp om ∧ RI s' (aimD v (shF v W m w), v.2) W P o ∧ (∃ f, h' (y + 6) = some (cI 40 f)) ∧ ∀ q, ¬ q = y + 1 → ¬ q = y + 6 → h' q = h q) := by
  have g1 := H
  obtain ⟨e0, e1⟩ := id g1
  have hS := R.2.1.2.2.1
  have h7 : ∀ c, B7 (shF v W m w c) := fun c => pF_B7 R.2.2.1 _ _ _ c
  have hsh : -2 ≤ (if w = 1 then bestF v W m else 0) ∧ (if w = 1 then bestF v W m else 0) ≤ 2 := by
    split
    · exact bestF_in _ _ _
    · decide
  refine AM.intro mf_X10_aims (by simp [Value.category]) (Nat.le_of_ble_eq_true rfl) (fun X hl hE hnm hX => ?_)
  subst hl
  subst hE
  show AW X _ _ 0 0 0 [some (.ref y), some (.int (nI m)), some (.int (nI w)), none] []
  have loop : ∀ (g j : Nat) (s' : IF) (hh : HP), j ≤ 40 → 40 - j < g → HN hh y s' ps ty sp om → hh (y + 6) = some (cI 40 (shF v W m w)) → (∀ q, ¬ q = y + 1 → ¬ q = y + 6 → hh q = h q) → (∀ k, k < 49 ∨ 89 ≤ k → s' k = s k) → (∀ c, c < j → s' (49 + c) = shF v W m w c) → AW X n hh 0 0 17 [some (.ref y), some (.int (nI m)), some (.int (nI w)), some (.int (nI j))] [] := by
    intro g
    induction g with
    | zero => intro j s' hh h1 h2; omega
    | succ g ih =>
      intro j s' hh h1 h2 g1 p1 ag h3 h4
      obtain ⟨e0, e1⟩ := id g1
      refine aw_iload_n hX dX10_aims_17 rfl ?_
      refine aw_bipush hX (40) dX10_aims_18 (by decide) ?_
      refine aw_icmp_ge hX 44 dX10_aims_20 (by decide) (fun c_20 => ?_) (fun c_20 => ?_)
      · have n_20 : 40 ≤ j := (nI_leI (a := 40) (b := j) (by omega) (by omega)).mp c_20
        exact aw_vret hX rfl rfl rfl rfl dX10_aims_44 (by exact ⟨rfl, s', g1, R.aim h3 (fun c hc => h4 c (by omega)) h7 (fun c hc => pF_out hc), ⟨_, p1⟩, ag⟩)
      · have n_20 : ¬ 40 ≤ j := fun q => c_20 ((nI_leI (a := 40) (b := j) (by omega) (by omega)).mpr q)
        refine aw_aload_n hX dX10_aims_23 rfl ?_
        refine gt_X10_7 hX dX10_aims_24 (by assumption) (by exact rfl) ?_
        refine aw_bipush hX (49) dX10_aims_27 (by decide) ?_
        refine aw_iload_n hX dX10_aims_29 rfl ?_
        refine aw_iadd hX dX10_aims_30 ?_
        refine aw_aload_n hX dX10_aims_31 rfl ?_
        refine gt_X10_25 hX dX10_aims_32 (by assumption) (by exact rfl) ?_
        refine aw_iload_n hX dX10_aims_35 rfl ?_
        refine aw_ialdN hX (j) (by assumption) rfl (by omega) (by first | decide | assumption) dX10_aims_36 ?_
        refine aw_iastN hX (49 + j) (by assumption) (nI_add 49 j) (by omega) (by first | decide | assumption) dX10_aims_37 ?_
        refine aw_iinc hX (nI (j + 1)) dX10_aims_38 rfl (nI_1 j) ?_
        refine aw_goto hX 17 dX10_aims_41 (by decide) ?_
        exact ih (j + 1) (upd s' (49 + j) (shF v W m w j)) _ (by omega) (by omega) (g1.put _) ((hset_ne _ _ (by omega)).trans p1) (fun q i1 i2 => (hset_ne _ _ i1).trans (ag q i1 i2)) (fun k hk => (pk_un (by omega)).trans (h3 k hk)) (fun c hc => by by_cases e : c = j; (subst e; exact pk_us); exact (pk_un (by omega)).trans (h4 c (by omega)))
  refine aw_aload_n hX dX10_aims_0 rfl ?_
  refine aw_iload_n hX dX10_aims_1 rfl ?_
  refine aw_aload_n hX dX10_aims_2 rfl ?_
  refine aw_iload_n hX dX10_aims_3 rfl ?_
  refine aw_iload_n hX dX10_aims_4 rfl ?_
  refine aw_callV0 hX RX10 rfl (tX10_shiftFor _ _ _ g1 R hm hw p1) rfl mf_X10_shiftFor mi_X10_shiftFor ms_X10_shiftFor kl_X10_136 (by assumption) rfl rfl (by decide) (Nat.le_of_ble_eq_true rfl) dX10_aims_5 (by decide) (fun v_5 h_5 p_5 => ?_)
  obtain ⟨rfl, f, rfl⟩ := p_5
  have g1 := g1.off (a := y + 6) (cI 40 f) (by omega)
  have e0 := g1.1
  have p1 := hset_eq h (y + 6) (cI 40 f)
  refine aw_aload_n hX dX10_aims_8 rfl ?_
  refine gt_X10_25 hX dX10_aims_9 (by assumption) (by exact rfl) ?_
  refine aw_callV0 hX RX10 rfl (tX10_lays _ _ _ g1 R.1 hS hm hsh.1 hsh.2 p1 (by omega)) rfl mf_X10_lays mi_X10_lays ms_X10_lays kl_X10_75 (by assumption) rfl rfl (by decide) (Nat.le_of_ble_eq_true rfl) dX10_aims_12 (by decide) (fun v_12 h_12 p_12 => ?_)
  obtain ⟨rfl, rfl⟩ := p_12
  have g1 := g1.off (a := y + 6) (cI 40 (shF v W m w)) (by omega)
  refine aw_iconst hX (0) dX10_aims_15 (by decide) ?_
  refine aw_istore_n hX dX10_aims_16 (Nat.le_of_ble_eq_true rfl) ?_
  exact loop 41 0 s _ (by decide) (by decide) g1 (hset_eq _ _ _) (fun q i1 i2 => (hset_ne _ _ i2).trans (hset_ne _ _ i2)) (fun k hk => rfl) (fun c hc => absurd hc (by omega))
theorem tX10_secondsFor (l : Launch) (E : EV) (n : Nat) (H : HR h y B W P o) (m w : Int32) : MX10_secondsFor l E n h [.ref y, .int m, .int w] (PL y h B W P o (fSeconds B W P o m w)) := by
  have e := H
  obtain ⟨s, pa, sp, om, g1, g2, g3, g4, g5, g6, g7⟩ := H
  obtain ⟨e0, e1⟩ := id g1
  have hS := g5.2.1.2.2.1
  have hK8 : B.1.2.2.1.2.2.2.2 ≤ 8 := hS.1
  by_cases hv : wmF (BS B) m w
  · obtain ⟨⟨k, hk, rfl⟩, j, hj, rfl⟩ := wm_ex hS.1 hv
    have hkc : (nI k).toNatClampNeg = k := nI_clamp (by omega)
    have hjc : (nI j).toNatClampNeg = j := nI_clamp (by omega)
    rw [fSeconds, if_pos hv, hkc, hjc]
    generalize ht : ((aimD B.1 (shF B.1 W k j), B.1.2) : PV) = t
    obtain ⟨⟨f1, i1⟩, ⟨f2, i2⟩, ⟨f3, i3⟩, ⟨f4, i4⟩, ⟨f5, i5⟩, ⟨f6, i6⟩, ⟨f7, i7⟩, ⟨f8, i8⟩, ⟨f9, i9⟩⟩ := g2
    refine AM.intro mf_X10_secondsFor (by simp [Value.category]) (Nat.le_of_ble_eq_true rfl) (fun X hl hE hnm hX => ?_)
    subst hl
    subst hE
    show AW X _ _ 0 0 0 [some (.ref y), some (.int (nI k)), some (.int (nI j)), none, none] []
    have fin : ∀ (i : Nat) (s' : IF) (hh : HP), i ≤ 300 → (¬ dueN (secN P o i t) = 0 → i = 300) → sfF P o t 301 0 = sfF P o t (301 - i) i → HN hh y s' B.2.1.length B.2.2.2 sp om → RI s' (secN P o i t) W P o → hh (y + 4) = some (cI 729 s) → (∃ f, hh (y + 6) = some (cI 40 f)) → (∃ f, hh (y + 8) = some (cI 40 f)) → AG4 y h hh → AW X n hh 0 0 56 [some (.ref y), some (.int (nI k)), some (.int (nI j)), some (.int (nI i)), none] [] := by
      intro i s' hh h1 h2 hq g R k4 k6 k8 ag
      obtain ⟨e0, e1⟩ := id g
      replace hq := hq.trans (show sfF P o t (301 - i) i = if dueN (secN P o i t) = 0 then nI i else -1009 by rw [show 301 - i = (300 - i) + 1 by omega, sfF]; split; rfl; (rename_i z; have := h2 z; subst this; rfl))
      have hfin : HR (hset hh (y + 1) (cI 729 s)) y B W P o := ⟨s, pa, sp, om, g.put s, ⟨(k6.imp fun f hf => (hset_ne _ _ (by omega)).trans hf), ⟨f2, (hset_ne _ _ (by omega)).trans ((ag _ (by omega) (by omega) (by omega) (by omega)).trans i2)⟩, (k8.imp fun f hf => (hset_ne _ _ (by omega)).trans hf), ⟨f4, (hset_ne _ _ (by omega)).trans ((ag _ (by omega) (by omega) (by omega) (by omega)).trans i4)⟩, ⟨f5, (hset_ne _ _ (by omega)).trans ((ag _ (by omega) (by omega) (by omega) (by omega)).trans i5)⟩, ⟨f6, (hset_ne _ _ (by omega)).trans ((ag _ (by omega) (by omega) (by omega) (by omega)).trans i6)⟩, ⟨f7, (hset_ne _ _ (by omega)).trans ((ag _ (by omega) (by omega) (by omega) (by omega)).trans i7)⟩, ⟨f8, (hset_ne _ _ (by omega)).trans ((ag _ (by omega) (by omega) (by omega) (by omega)).trans i8)⟩, ⟨s, (hset_ne _ _ (by omega)).trans k4⟩⟩, (hset_ne _ _ (by omega)).trans ((ag _ (by omega) (by omega) (by omega) (by omega)).trans g3), (hset_ne _ _ (by omega)).trans ((ag _ (by omega) (by omega) (by omega) (by omega)).trans g4), g5, g6, g7⟩
      have smf := (ag.set (y + 1) (cI 729 s) (Or.inl rfl)).sm
      refine aw_aload_n hX dX10_secondsFor_56 rfl ?_
      refine aw_callVp hX RX10 rfl (tX10_dueMany _ _ _ g R.1 R.2.2.2 R.2.1.2.2.2.2.2) rfl mf_X10_dueMany mi_X10_dueMany ms_X10_dueMany kl_X10_145 (by assumption) rfl rfl (by decide) (Nat.le_of_ble_eq_true rfl) dX10_secondsFor_57 (by decide) ?_
      refine aw_if_ne hX 67 dX10_secondsFor_60 (by decide) (fun c_60 => ?_) (fun c_60 => ?_)
      · refine aw_iconst hX (0) dX10_secondsFor_67 (by decide) ?_
        refine aw_istore hX dX10_secondsFor_68 (Nat.le_of_ble_eq_true rfl) ?_
        refine aw_aload_n hX dX10_secondsFor_70 rfl ?_
        refine gt_X10_7 hX dX10_secondsFor_71 (by assumption) (by exact rfl) ?_
        refine aw_aload_n hX dX10_secondsFor_74 rfl ?_
        refine gt_X10_19 hX dX10_secondsFor_75 (by assumption) (by exact rfl) ?_
        refine aw_callS0 hX RX10 rfl (tX10_copies _ _ _ e1 k4 (by omega)) rfl mf_X10_copies mt_X10_copies kl_X10_46 rfl (by decide) (Nat.le_of_ble_eq_true rfl) dX10_secondsFor_78 (by decide) (fun v_78 h_78 p_78 => ?_)
        obtain ⟨rfl, rfl⟩ := p_78
        refine aw_iload hX dX10_secondsFor_81 rfl ?_
        refine aw_if_eq hX 90 dX10_secondsFor_83 (by decide) (fun c_83 => ?_) (fun c_83 => ?_)
        · first | exact absurd rfl c_83 | (refine aw_sipush hX (-1009) dX10_secondsFor_90 (by decide) ?_; exact aw_iret hX rfl rfl rfl rfl dX10_secondsFor_93 ⟨by rw [hq, if_neg c_60], hfin, smf⟩) | exact absurd c_83 (by decide)
        · first | (refine aw_iload_n hX dX10_secondsFor_86 rfl ?_; refine aw_goto hX 93 dX10_secondsFor_87 (by decide) ?_; exact aw_iret hX rfl rfl rfl rfl dX10_secondsFor_93 ⟨by rw [hq, if_pos (Decidable.not_not.mp c_60)], hfin, smf⟩) | (refine aw_iload_n hX dX10_secondsFor_86 rfl ?_; refine aw_goto hX 93 dX10_secondsFor_87 (by decide) ?_; exact aw_iret hX rfl rfl rfl rfl dX10_secondsFor_93 ⟨by rw [hq, if_pos c_60], hfin, smf⟩) | exact absurd rfl c_83
      · refine aw_iconst hX (1) dX10_secondsFor_63 (by decide) ?_
        refine aw_goto hX 68 dX10_secondsFor_64 (by decide) ?_
        refine aw_istore hX dX10_secondsFor_68 (Nat.le_of_ble_eq_true rfl) ?_
        refine aw_aload_n hX dX10_secondsFor_70 rfl ?_
        refine gt_X10_7 hX dX10_secondsFor_71 (by assumption) (by exact rfl) ?_
        refine aw_aload_n hX dX10_secondsFor_74 rfl ?_
        refine gt_X10_19 hX dX10_secondsFor_75 (by assumption) (by exact rfl) ?_
        refine aw_callS0 hX RX10 rfl (tX10_copies _ _ _ e1 k4 (by omega)) rfl mf_X10_copies mt_X10_copies kl_X10_46 rfl (by decide) (Nat.le_of_ble_eq_true rfl) dX10_secondsFor_78 (by decide) (fun v_78 h_78 p_78 => ?_)
        obtain ⟨rfl, rfl⟩ := p_78
        refine aw_iload hX dX10_secondsFor_81 rfl ?_
        refine aw_if_eq hX 90 dX10_secondsFor_83 (by decide) (fun c_83 => ?_) (fun c_83 => ?_)
        · first | exact absurd rfl c_83 | (refine aw_sipush hX (-1009) dX10_secondsFor_90 (by decide) ?_; exact aw_iret hX rfl rfl rfl rfl dX10_secondsFor_93 ⟨by rw [hq, if_neg c_60], hfin, smf⟩) | exact absurd c_83 (by decide)
        · first | (refine aw_iload_n hX dX10_secondsFor_86 rfl ?_; refine aw_goto hX 93 dX10_secondsFor_87 (by decide) ?_; exact aw_iret hX rfl rfl rfl rfl dX10_secondsFor_93 ⟨by rw [hq, if_pos (Decidable.not_not.mp c_60)], hfin, smf⟩) | (refine aw_iload_n hX dX10_secondsFor_86 rfl ?_; refine aw_goto hX 93 dX10_secondsFor_87 (by decide) ?_; exact aw_iret hX rfl rfl rfl rfl dX10_secondsFor_93 ⟨by rw [hq, if_pos c_60], hfin, smf⟩) | exact absurd rfl c_83
    have loop : ∀ (z i : Nat) (s' : IF) (hh : HP), i ≤ 300 → 300 - i < z → sfF P o t 301 0 = sfF P o t (301 - i) i → HN hh y s' B.2.1.length B.2.2.2 sp om → RI s' (secN P o i t) W P o → hh (y + 4) = some (cI 729 s) → (∃ f, hh (y + 6) = some (cI 40 f)) → (∃ f, hh (y + 8) = some (cI 40 f)) → AG4 y h hh → AW X n hh 0 0 32 [some (.ref y), some (.int (nI k)), some (.int (nI j)), some (.int (nI i)), none] [] := by
      intro z
      induction z with
      | zero => intro i s' hh h1 h2; omega
      | succ z ih =>
        intro i s' hh h1 h2 hq g R k4 k6 k8 ag
        obtain ⟨e0, e1⟩ := id g
        obtain ⟨f, hf⟩ := k8
        obtain ⟨d, hd, hde⟩ := dueN_in R.2.1.2.2.2.2.2
        refine aw_iload_n hX dX10_secondsFor_32 rfl ?_
        refine aw_sipush hX (300) dX10_secondsFor_33 (by decide) ?_
        refine aw_icmp_ge hX 56 dX10_secondsFor_36 (by decide) (fun c_36 => ?_) (fun c_36 => ?_)
        · have n_36 : 300 ≤ i := (nI_leI (a := 300) (b := i) (by omega) (by omega)).mp c_36
          exact fin i s' hh h1 (fun _ => by omega) hq g R k4 k6 ⟨f, hf⟩ ag
        · have n_36 : ¬ 300 ≤ i := fun q => c_36 ((nI_leI (a := 300) (b := i) (by omega) (by omega)).mpr q)
          refine aw_aload_n hX dX10_secondsFor_39 rfl ?_
          refine aw_callVp hX RX10 rfl (tX10_dueMany _ _ _ g R.1 R.2.2.2 R.2.1.2.2.2.2.2) rfl mf_X10_dueMany mi_X10_dueMany ms_X10_dueMany kl_X10_145 (by assumption) rfl rfl (by decide) (Nat.le_of_ble_eq_true rfl) dX10_secondsFor_40 (by decide) ?_
          rw [hde]
          refine aw_if_le hX 56 dX10_secondsFor_43 (by decide) (fun c_43 => ?_) (fun c_43 => ?_)
          · have n_43 : d ≤ 0 := (nI_leI (a := d) (b := 0) (by omega) (by omega)).mp c_43
            exact fin i s' hh h1 (fun q => absurd (hde.trans (by rw [show d = 0 by omega]; rfl)) q) hq g R k4 k6 ⟨f, hf⟩ ag
          · have n_43 : ¬ d ≤ 0 := fun q => c_43 ((nI_leI (a := d) (b := 0) (by omega) (by omega)).mpr q)
            refine aw_aload_n hX dX10_secondsFor_46 rfl ?_
            refine aw_callV0 hX RX10 rfl (tX10_second _ _ _ g R hf) rfl mf_X10_second mi_X10_second ms_X10_second kl_X10_151 (by assumption) rfl rfl (by decide) (Nat.le_of_ble_eq_true rfl) dX10_secondsFor_47 (by decide) (fun v_47 h_47 p_47 => ?_)
            obtain ⟨rfl, s2, g2, R2, hf2, ag2⟩ := p_47
            refine aw_iinc hX (nI (i + 1)) dX10_secondsFor_50 rfl (nI_1 i) ?_
            refine aw_goto hX 32 dX10_secondsFor_53 (by decide) ?_
            have hd0 : ¬ dueN (secN P o i t) = 0 := fun q => n_43 (Nat.le_of_eq ((nI_eq (a := d) (b := 0) (by omega) (by decide)).mp (hde.symm.trans q)))
            exact ih (i + 1) s2 _ (by omega) (by omega) (hq.trans (by rw [show 301 - i = (301 - (i + 1)) + 1 by omega, sfF, if_neg hd0])) g2 R2 ((ag2 _ (by omega) (by omega)).trans k4) (k6.imp fun f hf => (ag2 _ (by omega) (by omega)).trans hf) hf2 (ag.two ag2)
    refine aw_aload_n hX dX10_secondsFor_0 rfl ?_
    refine aw_iload_n hX dX10_secondsFor_1 rfl ?_
    refine aw_iload_n hX dX10_secondsFor_2 rfl ?_
    refine aw_callVp hX RX10 rfl (tX10_isSh _ _ _ g1 g5 (nI k) (nI j)) rfl mf_X10_isShow mi_X10_isShow ms_X10_isShow kl_X10_139 (by assumption) rfl rfl (by decide) (Nat.le_of_ble_eq_true rfl) dX10_secondsFor_3 (by decide) ?_
    refine aw_if_ne hX 13 dX10_secondsFor_6 (by decide) (fun c_6 => ?_) (fun c_6 => ?_)
    · refine aw_aload_n hX dX10_secondsFor_13 rfl ?_
      refine gt_X10_19 hX dX10_secondsFor_14 (by assumption) (by exact rfl) ?_
      refine aw_aload_n hX dX10_secondsFor_17 rfl ?_
      refine gt_X10_7 hX dX10_secondsFor_18 (by assumption) (by exact rfl) ?_
      refine aw_callS0 hX RX10 rfl (tX10_copies _ _ _ i9 e1 (by omega)) rfl mf_X10_copies mt_X10_copies kl_X10_46 rfl (by decide) (Nat.le_of_ble_eq_true rfl) dX10_secondsFor_21 (by decide) (fun v_21 h_21 p_21 => ?_)
      obtain ⟨rfl, rfl⟩ := p_21
      have g1 := g1.off (a := y + 4) (cI 729 s) (by omega)
      have e0 := g1.1
      refine aw_aload_n hX dX10_secondsFor_24 rfl ?_
      refine aw_iload_n hX dX10_secondsFor_25 rfl ?_
      refine aw_iload_n hX dX10_secondsFor_26 rfl ?_
      refine aw_callV0 hX RX10 rfl (tX10_aimsN _ _ _ g1 (f0 := f1) ((hset_ne _ _ (by omega)).trans i1) g5 hk hj) rfl mf_X10_aims mi_X10_aims ms_X10_aims kl_X10_142 (by assumption) rfl rfl (by decide) (Nat.le_of_ble_eq_true rfl) dX10_secondsFor_27 (by decide) (fun v_27 h_27 p_27 => ?_)
      obtain ⟨rfl, s2, q1, q2, q3, q4⟩ := p_27
      refine aw_iconst hX (0) dX10_secondsFor_30 (by decide) ?_
      refine aw_istore_n hX dX10_secondsFor_31 (Nat.le_of_ble_eq_true rfl) ?_
      exact loop 301 0 s2 _ (by decide) (by decide) rfl q1 (by rw [← ht]; exact q2) ((q4 _ (by omega) (by omega)).trans (hset_eq _ _ _)) q3 ⟨f3, (q4 _ (by omega) (by omega)).trans ((hset_ne _ _ (by omega)).trans i3)⟩ (fun q j1 j2 j3 j4 => (q4 q j1 j3).trans (hset_ne _ _ j2))
    · refine aw_sipush hX (-1001) dX10_secondsFor_9 (by decide) ?_
      exact aw_iret hX rfl rfl rfl rfl dX10_secondsFor_12 (by exact absurd hv (bI_eq0.mp c_6))
  · rw [fSeconds, if_neg hv]
    refine AM.intro mf_X10_secondsFor (by simp [Value.category]) (Nat.le_of_ble_eq_true rfl) (fun X hl hE hnm hX => ?_)
    subst hl
    subst hE
    show AW X _ _ 0 0 0 [some (.ref y), some (.int m), some (.int w), none, none] []
    refine aw_aload_n hX dX10_secondsFor_0 rfl ?_
    refine aw_iload_n hX dX10_secondsFor_1 rfl ?_
    refine aw_iload_n hX dX10_secondsFor_2 rfl ?_
    refine aw_callVp hX RX10 rfl (tX10_isSh _ _ _ g1 g5 m w) rfl mf_X10_isShow mi_X10_isShow ms_X10_isShow kl_X10_139 (by assumption) rfl rfl (by decide) (Nat.le_of_ble_eq_true rfl) dX10_secondsFor_3 (by decide) ?_
    refine aw_if_ne hX 13 dX10_secondsFor_6 (by decide) (fun c_6 => ?_) (fun c_6 => ?_)
    · exact absurd (Decidable.not_not.mp (fun q => c_6 (bI_eq0.mpr q))) hv
    · refine aw_sipush hX (-1001) dX10_secondsFor_9 (by decide) ?_
      exact aw_iret hX rfl rfl rfl rfl dX10_secondsFor_12 (by exact ⟨rfl, e, Sm.rf⟩)
end REF14
