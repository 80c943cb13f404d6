/-! the reference: messages of a text, loading -/
section REF16
variable {h : HP} {y : Nat} {s : IF} {v : PV} {W P o ps len sp om : Nat} {tx : Nat → Nat}
theorem tX10_isText (l : Launch) (E : EV) (n : Nat) (H : HN h y s ps len sp om) (ht : h (y + 5) = some (cI 120 (nF tx))) (hl : len ≤ 120) (htx : ∀ j, j < 120 → tx j < 256) {r : Nat} (hr : sp + (r + 1) = len) (hc : tx sp = 62) (R : RI s v W P o) (it a b : Nat) : MX10_isText l E n h [.ref y] (LPq y h v W P o ps len om tx (rdF tx (r + 1) sp (v.2.2.1, it, 0, a, b)) it (r + 1)) := by
  have g := H
  obtain ⟨e0, e1⟩ := id g
  have r3 : s 4 = nI v.2.2.1.2.2.2.2 := R.1.2.2.1
  have hK8 : v.2.2.1.2.2.2.2 ≤ 8 := R.2.1.2.2.1.1
  by_cases hK : v.2.2.1.2.2.2.2 = 8
  · have hf : erI (rdF tx (r + 1) sp (v.2.2.1, it, 0, a, b)) len = nI sp := by
      refine er_fail hr (fun q => absurd q (Nat.succ_ne_zero r)) (fun _ => ?_)
      rw [hc, tkF_0 (by decide) rfl, tkS, if_neg (fun q => absurd q.2 (by show ¬ v.2.2.1.2.2.2.2 < 8; omega)), if_neg (by decide)]
    refine AM.intro mf_X10_isText (by simp [Value.category]) (Nat.le_of_ble_eq_true rfl) (fun X hl hE hnm hX => ?_)
    subst hl
    subst hE
    show AW X _ _ 0 0 0 [some (.ref y), none, none, none] []
    refine aw_aload_n hX dX10_isText_0 rfl ?_
    refine gt_X10_7 hX dX10_isText_1 (by assumption) (by exact rfl) ?_
    refine aw_iconst hX (4) dX10_isText_4 (by decide) ?_
    refine aw_ialdN hX (4) (by assumption) rfl (by decide) (by first | decide | assumption) dX10_isText_5 ?_
    rw [r3]
    refine aw_bipush hX (8) dX10_isText_6 (by decide) ?_
    refine aw_icmp_ne hX 13 dX10_isText_8 (by decide) (fun c_8 => ?_) (fun c_8 => ?_)
    · have n_8 : ¬ v.2.2.1.2.2.2.2 = 8 := fun q => c_8 ((nI_eq (a := v.2.2.1.2.2.2.2) (b := 8) (by omega) (by omega)).mpr q)
      exact absurd hK n_8
    · have n_8 : v.2.2.1.2.2.2.2 = 8 := (nI_eq (a := v.2.2.1.2.2.2.2) (b := 8) (by omega) (by omega)).mp c_8
      refine aw_iconst hX (0) dX10_isText_11 (by decide) ?_
      exact aw_zret hX rfl (by first | exact Or.inl rfl | exact Or.inr rfl | assumption) rfl rfl rfl dX10_isText_12 (by exact ⟨AGL.rf, Or.inr ⟨rfl, s, sp, g, hf, by omega⟩⟩)
  have hK7 : v.2.2.1.2.2.2.2 < 8 := by omega
  have hq0 : rdF tx (r + 1) sp (v.2.2.1, it, 0, a, b) = rdF tx r (sp + 1) ((v.2.2.1.1, v.2.2.1.2.1, v.2.2.1.2.2.1, updN v.2.2.1.2.2.2.1 v.2.2.1.2.2.2.2 0, v.2.2.1.2.2.2.2 + 1), it, 4, a, b) := by
    refine rdF_s ?_
    rw [hc, tkF_0 (by decide) rfl, tkS, if_pos ⟨rfl, hK7⟩]
  generalize rdF tx (r + 1) sp (v.2.2.1, it, 0, a, b) = q0 at hq0 ⊢
  refine AM.intro mf_X10_isText (by simp [Value.category]) (Nat.le_of_ble_eq_true rfl) (fun X hl hE hnm hX => ?_)
  subst hl
  subst hE
  show AW X _ _ 0 0 0 [some (.ref y), none, none, none] []
  have loop : ∀ (z r2 i2 nn : Nat) (s' : IF) (cr : Nat → Nat) (hh : HP) (x3 : Option Value), r2 < z → i2 + r2 = len → r2 ≤ r → nn ≤ 12 → HN hh y s' ps len i2 om → AGL y h hh → ¬ hz tx r2 i2 = 32 → q0 = rdF tx r2 i2 ((v.2.2.1.1, v.2.2.1.2.1, cr, updN v.2.2.1.2.2.2.1 v.2.2.1.2.2.2.2 nn, v.2.2.1.2.2.2.2 + 1), it, 4, a, b) → (∀ q, q < 605 + 13 * v.2.2.1.2.2.2.2 + 1 ∨ 605 + 13 * v.2.2.1.2.2.2.2 + 13 ≤ q → s' q = s q) → (∀ q, q < v.2.2.1.2.2.2.2 * 12 → cr q = v.2.2.1.2.2.1 q) → (∀ i, i < nn → s' (605 + 13 * v.2.2.1.2.2.2.2 + 1 + i) = nI (cr (v.2.2.1.2.2.2.2 * 12 + i))) → (∀ i, i < nn → cr (v.2.2.1.2.2.2.2 * 12 + i) ≤ 26) → AW X n hh 0 0 43 [some (.ref y), some (.int (nI (605 + 13 * v.2.2.1.2.2.2.2))), some (.int (nI nn)), x3] [] := by
    intro z
    induction z with
    | zero => intro r2 i2 nn s' cr hh x3 h1; omega
    | succ z ih =>
      intro r2 i2 nn s' cr hh x3 h1 h2 h3 h4 g ag h32 hq k1 k2 k4 k5
      obtain ⟨e0, e1⟩ := id g
      have ht' := (ag (y + 5) (by omega) (by omega)).trans ht
      have hb := hz_in htx hl h2
      have he : iI (hz tx r2 i2) = 59 ↔ hz tx r2 i2 = 59 := hz_eq hb (k := 59) (by decide)
      have he5 : iI (hz tx r2 i2) = 95 ↔ hz tx r2 i2 = 95 := hz_eq hb (k := 95) (by decide)
      have haz : (97 ≤ iI (hz tx r2 i2) ∧ iI (hz tx r2 i2) ≤ 122) ↔ (97 ≤ hz tx r2 i2 ∧ hz tx r2 i2 ≤ 122) := hz_le hb (a := 97) (b := 122) (by decide) (by decide) (by decide)
      have nz : ¬ r2 = 0 → ¬ tx i2 = 32 := fun q z => h32 (by rw [hz_s q, z]; rfl)
      have fail : (nn = 0 ∨ ¬ hz tx r2 i2 = 59) → (nn = 12 ∨ (¬ (97 ≤ hz tx r2 i2 ∧ hz tx r2 i2 ≤ 122) ∧ ¬ hz tx r2 i2 = 95)) → erI q0 len = nI i2 := fun q1 q2 => by
        rw [hq]
        refine er_fail h2 (fun _ => by show ¬ (4 : Nat) = 0; decide) (fun r0 => ?_)
        rw [hz_s r0] at q1 q2
        rw [tkF_4 (nz r0) rfl, tkC]
        show (if tx i2 = 59 ∧ 0 < updN v.2.2.1.2.2.2.1 v.2.2.1.2.2.2.2 nn v.2.2.1.2.2.2.2 then _ else if updN v.2.2.1.2.2.2.1 v.2.2.1.2.2.2.2 nn v.2.2.1.2.2.2.2 < 12 ∧ (tx i2 = 95 ∨ 97 ≤ tx i2 ∧ tx i2 ≤ 122) then _ else none) = none
        rw [uN_s, if_neg (by omega), if_neg (by omega)]
      have body : (nn = 0 ∨ ¬ hz tx r2 i2 = 59) → AW X n hh 0 0 56 [some (.ref y), some (.int (nI (605 + 13 * v.2.2.1.2.2.2.2))), some (.int (nI nn)), x3] [] := by
        intro hne
        have next : ¬ nn = 12 → ((97 ≤ hz tx r2 i2 ∧ hz tx r2 i2 ≤ 122) ∨ hz tx r2 i2 = 95) → AW X n hh 0 0 86 [some (.ref y), some (.int (nI (605 + 13 * v.2.2.1.2.2.2.2))), some (.int (nI nn)), some (.int (iI (hz tx r2 i2)))] [] := by
          intro hn12 hok
          obtain ⟨r3, rfl⟩ : ∃ r3, r2 = r3 + 1 := by
            cases r2 with
            | zero => exact absurd hok (by rw [hz, if_pos rfl]; decide)
            | succ r3 => exact ⟨r3, rfl⟩
          have h2' : i2 + 1 + r3 = len := by omega
          have hz2 : hz tx (r3 + 1) i2 = (tx i2 : Int) := hz_s (by omega)
          have nz := nz (by omega)
          have hb2 := htx i2 (by omega)
          rw [hz2] at hok hne he5
          have hx26 : (if tx i2 = 95 then 26 else tx i2 - 97) ≤ 26 := by split <;> omega
          have hq1 : q0 = rdF tx r3 (i2 + 1) ((v.2.2.1.1, v.2.2.1.2.1, updN cr (v.2.2.1.2.2.2.2 * 12 + nn) (if tx i2 = 95 then 26 else tx i2 - 97), updN v.2.2.1.2.2.2.1 v.2.2.1.2.2.2.2 (nn + 1), v.2.2.1.2.2.2.2 + 1), it, 4, a, b) := by
            refine hq.trans (rdF_s ?_)
            rw [tkF_4 nz rfl, tkC]
            show (if tx i2 = 59 ∧ 0 < updN v.2.2.1.2.2.2.1 v.2.2.1.2.2.2.2 nn v.2.2.1.2.2.2.2 then _ else if updN v.2.2.1.2.2.2.1 v.2.2.1.2.2.2.2 nn v.2.2.1.2.2.2.2 < 12 ∧ (tx i2 = 95 ∨ 97 ≤ tx i2 ∧ tx i2 ≤ 122) then some (((_, _, updN cr (v.2.2.1.2.2.2.2 * 12 + updN v.2.2.1.2.2.2.1 v.2.2.1.2.2.2.2 nn v.2.2.1.2.2.2.2) (if tx i2 = 95 then 26 else tx i2 - 97), updN (updN v.2.2.1.2.2.2.1 v.2.2.1.2.2.2.2 nn) v.2.2.1.2.2.2.2 (updN v.2.2.1.2.2.2.1 v.2.2.1.2.2.2.2 nn v.2.2.1.2.2.2.2 + 1), _) : SV), _) else none) = _
            rw [uN_s, if_neg (by omega), if_pos (by omega), uN_2]
          rw [hz2]
          refine aw_aload_n hX dX10_isText_86 rfl ?_
          refine gt_X10_7 hX dX10_isText_87 (by assumption) (by exact rfl) ?_
          refine aw_iload_n hX dX10_isText_90 rfl ?_
          refine aw_iconst hX (1) dX10_isText_91 (by decide) ?_
          refine aw_iadd hX dX10_isText_92 ?_
          refine aw_iload_n hX dX10_isText_93 rfl ?_
          refine aw_iadd hX dX10_isText_94 ?_
          refine aw_iload_n hX dX10_isText_95 rfl ?_
          refine aw_bipush hX (95) dX10_isText_96 (by decide) ?_
          refine aw_icmp_ne hX 106 dX10_isText_98 (by decide) (fun c_98 => ?_) (fun c_98 => ?_)
          · refine aw_iload_n hX dX10_isText_106 rfl ?_
            refine aw_bipush hX (97) dX10_isText_107 (by decide) ?_
            refine aw_isub hX dX10_isText_109 ?_
            refine AW.top (y := nI (if tx i2 = 95 then 26 else tx i2 - 97)) (by rw [if_neg (fun q => c_98 (he5.mpr (by rw [q]; rfl)))]; show iI ((tx i2 : Nat) : Int) - iI 97 = _; rw [iI_sub, iI_n]; congr 1; have : ¬ tx i2 = 95 := fun q => c_98 (he5.mpr (by rw [q]; rfl)); omega) ?_
            refine aw_iastN hX (605 + 13 * v.2.2.1.2.2.2.2 + 1 + nn) (by assumption) (by rw [nI_1, nI_add]) (by omega) (by first | decide | assumption) dX10_isText_110 ?_
            have g := g.put (upd s' (605 + 13 * v.2.2.1.2.2.2.2 + 1 + nn) (nI (if tx i2 = 95 then 26 else tx i2 - 97)))
            have ag := ag.set (y + 1) (cI 729 (upd s' (605 + 13 * v.2.2.1.2.2.2.2 + 1 + nn) (nI (if tx i2 = 95 then 26 else tx i2 - 97)))) (Or.inr rfl)
            obtain ⟨e0, e1⟩ := id g
            refine aw_iinc hX (nI (nn + 1)) dX10_isText_111 rfl (nI_1 nn) ?_
            refine aw_aload_n hX dX10_isText_114 rfl ?_
            refine aw_dup hX dX10_isText_115 rfl ?_
            refine gt_X10_116 hX dX10_isText_116 (by assumption) (by exact rfl) ?_
            refine aw_iconst hX (1) dX10_isText_119 (by decide) ?_
            refine aw_iadd hX dX10_isText_120 ?_
            rw [nI_1]
            refine pt_X10_116 hX dX10_isText_121 (by assumption) (Nat.le_of_ble_eq_true rfl) ?_
            dsimp only [List.set_cons_zero, List.set_cons_succ]
            have g := g.spt (i2 + 1)
            have ag := ag.set y (oM y ps len (i2 + 1) om) (Or.inl rfl)
            have ht' := (ag (y + 5) (by omega) (by omega)).trans ht
            obtain ⟨e0, e1⟩ := id g
            refine aw_aload_n hX dX10_isText_124 rfl ?_
            refine aw_callV0 hX RX10 rfl (tX10_skips _ _ _ g ht' hl htx (r := r3) (by omega)) rfl mf_X10_skips mi_X10_skips ms_X10_skips kl_X10_123 (by assumption) rfl rfl (by decide) (Nat.le_of_ble_eq_true rfl) dX10_isText_125 (by decide) (fun v_125 h_125 p_125 => ?_)
            obtain ⟨rfl, i5, r5, j1, j2, g, ag5, j3, j4⟩ := p_125
            have ag := ag.tr ag5
            refine aw_goto hX 43 dX10_isText_128 (by decide) ?_
            exact ih r5 i5 (nn + 1) (upd s' (605 + 13 * v.2.2.1.2.2.2.2 + 1 + nn) (nI (if tx i2 = 95 then 26 else tx i2 - 97))) (updN cr (v.2.2.1.2.2.2.2 * 12 + nn) (if tx i2 = 95 then 26 else tx i2 - 97)) _ _ (by omega) j1 (by omega) (by omega) g ag j3 (hq1.trans (j4 _ (by show ¬ (4 : Nat) = 3; decide))) (fun q hq => (pk_un (by omega)).trans (k1 q hq)) (fun q hq => (uN_n (by omega)).trans (k2 q hq)) (fun i hi => by by_cases e : i = nn; (subst e; exact pk_us.trans (congrArg nI uN_s.symm)); exact (pk_un (by omega)).trans ((k4 i (by omega)).trans (congrArg nI (uN_n (by omega)).symm))) (fun i hi => by by_cases e : i = nn; (subst e; rw [uN_s]; exact hx26); (rw [uN_n (by omega)]; exact k5 i (by omega)))
          · refine aw_bipush hX (26) dX10_isText_101 (by decide) ?_
            refine AW.top (y := nI (if tx i2 = 95 then 26 else tx i2 - 97)) (by have q := he5.mp c_98; rw [if_pos (by omega)]; rfl) ?_
            refine aw_goto hX 110 dX10_isText_103 (by decide) ?_
            refine aw_iastN hX (605 + 13 * v.2.2.1.2.2.2.2 + 1 + nn) (by assumption) (by rw [nI_1, nI_add]) (by omega) (by first | decide | assumption) dX10_isText_110 ?_
            have g := g.put (upd s' (605 + 13 * v.2.2.1.2.2.2.2 + 1 + nn) (nI (if tx i2 = 95 then 26 else tx i2 - 97)))
            have ag := ag.set (y + 1) (cI 729 (upd s' (605 + 13 * v.2.2.1.2.2.2.2 + 1 + nn) (nI (if tx i2 = 95 then 26 else tx i2 - 97)))) (Or.inr rfl)
            obtain ⟨e0, e1⟩ := id g
            refine aw_iinc hX (nI (nn + 1)) dX10_isText_111 rfl (nI_1 nn) ?_
            refine aw_aload_n hX dX10_isText_114 rfl ?_
            refine aw_dup hX dX10_isText_115 rfl ?_
            refine gt_X10_116 hX dX10_isText_116 (by assumption) (by exact rfl) ?_
            refine aw_iconst hX (1) dX10_isText_119 (by decide) ?_
            refine aw_iadd hX dX10_isText_120 ?_
            rw [nI_1]
            refine pt_X10_116 hX dX10_isText_121 (by assumption) (Nat.le_of_ble_eq_true rfl) ?_
            dsimp only [List.set_cons_zero, List.set_cons_succ]
            have g := g.spt (i2 + 1)
            have ag := ag.set y (oM y ps len (i2 + 1) om) (Or.inl rfl)
            have ht' := (ag (y + 5) (by omega) (by omega)).trans ht
            obtain ⟨e0, e1⟩ := id g
            refine aw_aload_n hX dX10_isText_124 rfl ?_
            refine aw_callV0 hX RX10 rfl (tX10_skips _ _ _ g ht' hl htx (r := r3) (by omega)) rfl mf_X10_skips mi_X10_skips ms_X10_skips kl_X10_123 (by assumption) rfl rfl (by decide) (Nat.le_of_ble_eq_true rfl) dX10_isText_125 (by decide) (fun v_125 h_125 p_125 => ?_)
            obtain ⟨rfl, i5, r5, j1, j2, g, ag5, j3, j4⟩ := p_125
            have ag := ag.tr ag5
            refine aw_goto hX 43 dX10_isText_128 (by decide) ?_
            exact ih r5 i5 (nn + 1) (upd s' (605 + 13 * v.2.2.1.2.2.2.2 + 1 + nn) (nI (if tx i2 = 95 then 26 else tx i2 - 97))) (updN cr (v.2.2.1.2.2.2.2 * 12 + nn) (if tx i2 = 95 then 26 else tx i2 - 97)) _ _ (by omega) j1 (by omega) (by omega) g ag j3 (hq1.trans (j4 _ (by show ¬ (4 : Nat) = 3; decide))) (fun q hq => (pk_un (by omega)).trans (k1 q hq)) (fun q hq => (uN_n (by omega)).trans (k2 q hq)) (fun i hi => by by_cases e : i = nn; (subst e; exact pk_us.trans (congrArg nI uN_s.symm)); exact (pk_un (by omega)).trans ((k4 i (by omega)).trans (congrArg nI (uN_n (by omega)).symm))) (fun i hi => by by_cases e : i = nn; (subst e; rw [uN_s]; exact hx26); (rw [uN_n (by omega)]; exact k5 i (by omega)))
        refine aw_aload_n hX dX10_isText_56 rfl ?_
        refine aw_callVp hX RX10 rfl (tX10_here _ _ _ g ht' hl h2) rfl mf_X10_here mi_X10_here ms_X10_here kl_X10_119 (by assumption) rfl rfl (by decide) (Nat.le_of_ble_eq_true rfl) dX10_isText_57 (by decide) ?_
        refine aw_istore_n hX dX10_isText_60 (Nat.le_of_ble_eq_true rfl) ?_
        refine aw_iload_n hX dX10_isText_61 rfl ?_
        refine aw_bipush hX (12) dX10_isText_62 (by decide) ?_
        refine aw_icmp_eq hX 84 dX10_isText_64 (by decide) (fun c_64 => ?_) (fun c_64 => ?_)
        · have n_64 : nn = 12 := (nI_eq (a := nn) (b := 12) (by omega) (by omega)).mp c_64
          refine aw_iconst hX (0) dX10_isText_84 (by decide) ?_
          exact aw_zret hX rfl (Or.inl rfl) rfl rfl rfl dX10_isText_85 ⟨ag, Or.inr ⟨rfl, s', i2, g, fail hne (Or.inl n_64), by omega⟩⟩
        · have n_64 : ¬ nn = 12 := fun q => c_64 ((nI_eq (a := nn) (b := 12) (by omega) (by omega)).mpr q)
          refine aw_iload_n hX dX10_isText_67 rfl ?_
          refine aw_bipush hX (97) dX10_isText_68 (by decide) ?_
          refine aw_bipush hX (122) dX10_isText_70 (by decide) ?_
          refine aw_callSp hX RX10 rfl (tX10_in _ _ _ _ (iI (hz tx r2 i2)) 97 122) rfl mf_X10_in mt_X10_in kl_X10_96 rfl (by decide) (Nat.le_of_ble_eq_true rfl) dX10_isText_72 (by decide) ?_
          refine aw_if_ne hX 86 dX10_isText_75 (by decide) (fun c_75 => ?_) (fun c_75 => ?_)
          · exact next n_64 (Or.inl (haz.mp (Decidable.not_not.mp (fun q => c_75 (bI_eq0.mpr q)))))
          · refine aw_iload_n hX dX10_isText_78 rfl ?_
            refine aw_bipush hX (95) dX10_isText_79 (by decide) ?_
            refine aw_icmp_eq hX 86 dX10_isText_81 (by decide) (fun c_81 => ?_) (fun c_81 => ?_)
            · exact next n_64 (Or.inr (he5.mp c_81))
            · refine aw_iconst hX (0) dX10_isText_84 (by decide) ?_
              exact aw_zret hX rfl (by first | exact Or.inl rfl | exact Or.inr rfl | assumption) rfl rfl rfl dX10_isText_85 (by exact ⟨ag, Or.inr ⟨rfl, s', i2, g, fail hne (Or.inr ⟨fun q => bI_eq0.mp c_75 (haz.mpr q), fun q => c_81 (he5.mpr q)⟩), by omega⟩⟩)
      refine aw_iload_n hX dX10_isText_43 rfl ?_
      refine aw_if_eq hX 56 dX10_isText_44 (by decide) (fun c_44 => ?_) (fun c_44 => ?_)
      · have n_44 : nn = 0 := (nI_eq (a := nn) (b := 0) (by omega) (by omega)).mp c_44
        exact body (Or.inl n_44)
      · have n_44 : ¬ nn = 0 := fun q => c_44 ((nI_eq (a := nn) (b := 0) (by omega) (by omega)).mpr q)
        refine aw_aload_n hX dX10_isText_47 rfl ?_
        refine aw_callVp hX RX10 rfl (tX10_here _ _ _ g ht' hl h2) rfl mf_X10_here mi_X10_here ms_X10_here kl_X10_119 (by assumption) rfl rfl (by decide) (Nat.le_of_ble_eq_true rfl) dX10_isText_48 (by decide) ?_
        refine aw_bipush hX (59) dX10_isText_51 (by decide) ?_
        refine aw_icmp_eq hX 131 dX10_isText_53 (by decide) (fun c_53 => ?_) (fun c_53 => ?_)
        · have h59 := he.mp c_53
          obtain ⟨r3, rfl⟩ : ∃ r3, r2 = r3 + 1 := (by cases r2 with | zero => exact absurd h59 (by rw [hz, if_pos rfl]; decide) | succ r4 => exact ⟨r4, rfl⟩)
          have hc59 : tx i2 = 59 := (by rw [hz_s (by omega)] at h59; omega)
          have hq1 : q0 = rdF tx r3 (i2 + 1) ((v.2.2.1.1, v.2.2.1.2.1, cr, updN v.2.2.1.2.2.2.1 v.2.2.1.2.2.2.2 nn, v.2.2.1.2.2.2.2 + 1), it + 1, 0, a, b) := hq.trans (rdF_s (by rw [hc59, tkF_4 (by decide) rfl, tkC]; show (if (59 : Nat) = 59 ∧ 0 < updN v.2.2.1.2.2.2.1 v.2.2.1.2.2.2.2 nn v.2.2.1.2.2.2.2 then _ else _) = _; rw [uN_s, if_pos (by omega)]))
          have y4 : s' 4 = nI v.2.2.1.2.2.2.2 := (k1 4 (by omega)).trans R.1.2.2.1
          refine aw_aload_n hX dX10_isText_131 rfl ?_
          refine gt_X10_7 hX dX10_isText_132 (by assumption) (by exact rfl) ?_
          refine aw_iload_n hX dX10_isText_135 rfl ?_
          refine aw_iload_n hX dX10_isText_136 rfl ?_
          refine aw_iastN hX (605 + 13 * v.2.2.1.2.2.2.2) (by assumption) rfl (by omega) (by first | decide | assumption) dX10_isText_137 ?_
          have g := g.put (upd s' (605 + 13 * v.2.2.1.2.2.2.2) (nI nn))
          have ag := ag.set (y + 1) (cI 729 (upd s' (605 + 13 * v.2.2.1.2.2.2.2) (nI nn))) (Or.inr rfl)
          obtain ⟨e0, e1⟩ := id g
          refine aw_aload_n hX dX10_isText_138 rfl ?_
          refine gt_X10_7 hX dX10_isText_139 (by assumption) (by exact rfl) ?_
          refine aw_iconst hX (4) dX10_isText_142 (by decide) ?_
          refine aw_dup2 hX dX10_isText_143 rfl rfl ?_
          refine aw_ialdN hX (4) (by assumption) rfl (by decide) (by first | decide | assumption) dX10_isText_144 ?_
          rw [show upd s' (605 + 13 * v.2.2.1.2.2.2.2) (nI nn) 4 = nI v.2.2.1.2.2.2.2 from (pk_un (by omega)).trans y4]
          refine aw_iconst hX (1) dX10_isText_145 (by decide) ?_
          refine aw_iadd hX dX10_isText_146 ?_
          rw [nI_1]
          refine aw_iastN hX (4) (by assumption) rfl (by decide) (by first | decide | assumption) dX10_isText_147 ?_
          have g := g.put (upd (upd s' (605 + 13 * v.2.2.1.2.2.2.2) (nI nn)) 4 (nI (v.2.2.1.2.2.2.2 + 1)))
          have ag := ag.set (y + 1) (cI 729 (upd (upd s' (605 + 13 * v.2.2.1.2.2.2.2) (nI nn)) 4 (nI (v.2.2.1.2.2.2.2 + 1)))) (Or.inr rfl)
          obtain ⟨e0, e1⟩ := id g
          refine aw_aload_n hX dX10_isText_148 rfl ?_
          refine aw_dup hX dX10_isText_149 rfl ?_
          refine gt_X10_116 hX dX10_isText_150 (by assumption) (by exact rfl) ?_
          refine aw_iconst hX (1) dX10_isText_153 (by decide) ?_
          refine aw_iadd hX dX10_isText_154 ?_
          rw [nI_1]
          refine pt_X10_116 hX dX10_isText_155 (by assumption) (Nat.le_of_ble_eq_true rfl) ?_
          dsimp only [List.set_cons_zero, List.set_cons_succ]
          refine aw_iconst hX (1) dX10_isText_158 (by decide) ?_
          exact aw_zret hX rfl (by first | exact Or.inl rfl | exact Or.inr rfl | assumption) rfl rfl rfl dX10_isText_159 (by exact ⟨ag.set _ _ (Or.inl rfl), Or.inl ⟨rfl, _, _, r3, i2 + 1, a, b, by omega, by omega, g.spt (i2 + 1), R.msg2 (s' := upd (upd s' (605 + 13 * v.2.2.1.2.2.2.2) (nI nn)) 4 (nI (v.2.2.1.2.2.2.2 + 1))) (L := nn) (cr := cr) hK7 k2 ⟨by omega, h4⟩ k5 (fun k hk => (pk_un (by omega)).trans ((pk_un (by omega)).trans (k1 k (by omega)))) pk_us ((pk_un (by omega)).trans pk_us) (fun i hi => (pk_un (by omega)).trans ((pk_un (by omega)).trans (k4 i hi))), hq1⟩⟩)
        · exact body (Or.inr (fun q => c_53 (he.mpr q)))
  refine aw_aload_n hX dX10_isText_0 rfl ?_
  refine gt_X10_7 hX dX10_isText_1 (by assumption) (by exact rfl) ?_
  refine aw_iconst hX (4) dX10_isText_4 (by decide) ?_
  refine aw_ialdN hX (4) (by assumption) rfl (by decide) (by first | decide | assumption) dX10_isText_5 ?_
  rw [r3]
  refine aw_bipush hX (8) dX10_isText_6 (by decide) ?_
  refine aw_icmp_ne hX 13 dX10_isText_8 (by decide) (fun c_8 => ?_) (fun c_8 => ?_)
  · have n_8 : ¬ v.2.2.1.2.2.2.2 = 8 := fun q => c_8 ((nI_eq (a := v.2.2.1.2.2.2.2) (b := 8) (by omega) (by omega)).mpr q)
    refine aw_sipush hX (605) dX10_isText_13 (by decide) ?_
    refine aw_bipush hX (13) dX10_isText_16 (by decide) ?_
    refine aw_aload_n hX dX10_isText_18 rfl ?_
    refine gt_X10_7 hX dX10_isText_19 (by assumption) (by exact rfl) ?_
    refine aw_iconst hX (4) dX10_isText_22 (by decide) ?_
    refine aw_ialdN hX (4) (by assumption) rfl (by decide) (by first | decide | assumption) dX10_isText_23 ?_
    rw [r3]
    refine aw_imul hX dX10_isText_24 ?_
    refine aw_iadd hX dX10_isText_25 ?_
    rw [ix_m]
    refine aw_istore_n hX dX10_isText_26 (Nat.le_of_ble_eq_true rfl) ?_
    refine aw_aload_n hX dX10_isText_27 rfl ?_
    refine aw_dup hX dX10_isText_28 rfl ?_
    refine gt_X10_116 hX dX10_isText_29 (by assumption) (by exact rfl) ?_
    refine aw_iconst hX (1) dX10_isText_32 (by decide) ?_
    refine aw_iadd hX dX10_isText_33 ?_
    rw [nI_1]
    refine pt_X10_116 hX dX10_isText_34 (by assumption) (Nat.le_of_ble_eq_true rfl) ?_
    dsimp only [List.set_cons_zero, List.set_cons_succ]
    have g := g.spt (sp + 1)
    have ag := AGL.set (AGL.rf (h := h)) y (oM y ps len (sp + 1) om) (Or.inl rfl)
    have ht' := (ag (y + 5) (by omega) (by omega)).trans ht
    obtain ⟨e0, e1⟩ := id g
    refine aw_aload_n hX dX10_isText_37 rfl ?_
    refine aw_callV0 hX RX10 rfl (tX10_skips _ _ _ g ht' hl htx (r := r) (by omega)) rfl mf_X10_skips mi_X10_skips ms_X10_skips kl_X10_123 (by assumption) rfl rfl (by decide) (Nat.le_of_ble_eq_true rfl) dX10_isText_38 (by decide) (fun v_38 h_38 p_38 => ?_)
    obtain ⟨rfl, i1, r1, j1, j2, g, ag5, j3, j4⟩ := p_38
    have ag := ag.tr ag5
    refine aw_iconst hX (0) dX10_isText_41 (by decide) ?_
    refine aw_istore_n hX dX10_isText_42 (Nat.le_of_ble_eq_true rfl) ?_
    exact loop (r1 + 1) r1 i1 0 s v.2.2.1.2.2.1 _ _ (by omega) j1 (by omega) (by decide) g ag j3 (hq0.trans (j4 _ (by show ¬ (4 : Nat) = 3; decide))) (fun q _ => rfl) (fun q _ => rfl) (fun i hi => absurd hi (Nat.not_lt_zero i)) (fun i hi => absurd hi (Nat.not_lt_zero i))
  · have n_8 : v.2.2.1.2.2.2.2 = 8 := (nI_eq (a := v.2.2.1.2.2.2.2) (b := 8) (by omega) (by omega)).mp c_8
    exact absurd n_8 hK
end REF16
section REF17
variable {h : HP} {y : Nat} {B : FV} {W P o : Nat} {s : IF}
theorem SCR.agl {h' : HP} (H : SCR h y) (e : AGL y h h') : SCR h' y := by
  obtain ⟨⟨f1, h1⟩, ⟨f2, h2⟩, ⟨f3, h3⟩, ⟨f4, h4⟩, ⟨f5, h5⟩, ⟨f6, h6⟩, ⟨f7, h7⟩, ⟨f8, h8⟩, ⟨f9, h9⟩⟩ := H
  exact ⟨⟨f1, (e _ (by omega) (by omega)).trans h1⟩, ⟨f2, (e _ (by omega) (by omega)).trans h2⟩, ⟨f3, (e _ (by omega) (by omega)).trans h3⟩, ⟨f4, (e _ (by omega) (by omega)).trans h4⟩, ⟨f5, (e _ (by omega) (by omega)).trans h5⟩, ⟨f6, (e _ (by omega) (by omega)).trans h6⟩, ⟨f7, (e _ (by omega) (by omega)).trans h7⟩, ⟨f8, (e _ (by omega) (by omega)).trans h8⟩, ⟨f9, (e _ (by omega) (by omega)).trans h9⟩⟩
theorem tX10_load (l : Launch) (E : EV) (n : Nat) (H : HR h y B W P o) (htx : ∀ j, j < 120 → B.2.2.1 j < 256) (hlen : B.2.2.2 ≤ 120) (a b : Nat) : MX10_load l E n h [.ref y] (PM y h (fLoad B a b)) := by
  obtain ⟨s, q⟩ := H
  have g5 := q.choose_spec.choose_spec.choose_spec.2.2.2.2.1
  have e0 := q.choose_spec.choose_spec.choose_spec.1.1
  have hfl : ∀ q0, q0 = rdF B.2.2.1 B.2.2.2 0 (BS B, 0, 0, a, b) → fLoad B a b = if erI q0 B.2.2.2 = -1 then (nI q0.2.2.1, ((B.1.1, B.1.2.1, q0.2.1, B.1.2.2.2), keepF B.2.1 B.1, B.2.2.1, 0)) else (-2000 - erI q0 B.2.2.2, B) := fun q0 e => by rw [e]; rfl
  obtain ⟨q0, hq0⟩ : ∃ q0, q0 = rdF B.2.2.1 B.2.2.2 0 (BS B, 0, 0, a, b) := ⟨_, rfl⟩
  rw [hfl q0 hq0]
  refine AM.intro mf_X10_load (by simp [Value.category]) (Nat.le_of_ble_eq_true rfl) (fun X hl hE hnm hX => ?_)
  subst hl
  subst hE
  show AW X _ _ 0 0 0 [some (.ref y), none, none] []
  have main : ∀ (h1 : HP), HQ h1 y s B W P o → Sm y (y + 13) h h1 → AW X n h1 0 0 4 [some (.ref y), none, none] [] := by
    intro h1 q sm1
    obtain ⟨pa, sp0, om, as, g, hsc, hpa, ht, has, ha, hpast, hl6⟩ := id q
    have loop : ∀ (z r i it : Nat) (s' : IF) (S' : SV) (a' b' : Nat) (hh : HP) (x2 : Option Value), r < z → i + r = B.2.2.2 → HN hh y s' B.2.1.length B.2.2.2 i om → AGL y h1 hh → RI s' (B.1.1, B.1.2.1, S', B.1.2.2.2) W P o → ¬ hz B.2.2.1 r i = 32 → q0 = rdF B.2.2.1 r i (S', it, 0, a', b') → AW X n hh 0 0 15 [some (.ref y), some (.int (nI it)), x2] [] := by
      intro z
      induction z with
      | zero => intro r i it s' S' a' b' hh x2 h1; omega
      | succ z ih =>
        intro r i it s' S' a' b' hh x2 k1 k2 g ag R h32 hq
        obtain ⟨e0, e1⟩ := id g
        have ht' := (ag (y + 5) (by omega) (by omega)).trans ht
        have hb := hz_in htx hlen k2
        have he : iI (hz B.2.2.1 r i) = 62 ↔ hz B.2.2.1 r i = 62 := hz_eq hb (k := 62) (by decide)
        have haz : (97 ≤ iI (hz B.2.2.1 r i) ∧ iI (hz B.2.2.1 r i) ≤ 122) ↔ (97 ≤ hz B.2.2.1 r i ∧ hz B.2.2.1 r i ≤ 122) := hz_le hb (a := 97) (b := 122) (by decide) (by decide) (by decide)
        have good : ∀ (hh : HP) (s2 : IF) (S2 : SV) (r2 i2 a2 b2 : Nat) (x2 : Option Value), i2 + r2 = B.2.2.2 → r2 < r → HN hh y s2 B.2.1.length B.2.2.2 i2 om → AGL y h1 hh → RI s2 (B.1.1, B.1.2.1, S2, B.1.2.2.2) W P o → q0 = rdF B.2.2.1 r2 i2 (S2, it + 1, 0, a2, b2) → AW X n hh 0 0 68 [some (.ref y), some (.int (nI it)), x2] [.int 1] := by
          intro hh s2 S2 r2 i2 a2 b2 x2 m1 m2 g ag R hq
          have e0 := g.1
          have ht' := (ag (y + 5) (by omega) (by omega)).trans ht
          refine aw_istore_n hX dX10_load_68 (Nat.le_of_ble_eq_true rfl) ?_
          refine aw_iload_n hX dX10_load_69 rfl ?_
          refine aw_if_ne hX 93 dX10_load_70 (by decide) (fun c_70 => ?_) (fun c_70 => ?_)
          · refine aw_iinc hX (nI (it + 1)) dX10_load_93 rfl (nI_1 it) ?_
            refine aw_aload_n hX dX10_load_96 rfl ?_
            refine aw_callV0 hX RX10 rfl (tX10_skips _ _ _ g ht' hlen htx (r := r2) m1) rfl mf_X10_skips mi_X10_skips ms_X10_skips kl_X10_123 (by assumption) rfl rfl (by decide) (Nat.le_of_ble_eq_true rfl) dX10_load_97 (by decide) (fun v_97 h_97 p_97 => ?_)
            obtain ⟨rfl, i5, r5, j1, j2, g, ag5, j3, j4⟩ := p_97
            have ag := ag.tr ag5
            refine aw_goto hX 15 dX10_load_100 (by decide) ?_
            exact ih r5 i5 (it + 1) s2 S2 a2 b2 _ _ (by omega) j1 g ag R j3 (hq.trans (j4 _ (by show ¬ (0 : Nat) = 3; decide)))
          · exact absurd c_70 (by decide)
        have bad : ∀ (hh : HP) (s2 : IF) (i2 : Nat) (x2 : Option Value), HN hh y s2 B.2.1.length B.2.2.2 i2 om → AGL y h1 hh → erI q0 B.2.2.2 = nI i2 → i2 ≤ B.2.2.2 → AW X n hh 0 0 68 [some (.ref y), some (.int (nI it)), x2] [.int 0] := by
          intro hh s2 i2 x2 g ag he hi
          obtain ⟨e0, e1⟩ := id g
          have has' := (ag (y + 3) (by omega) (by omega)).trans has
          refine aw_istore_n hX dX10_load_68 (Nat.le_of_ble_eq_true rfl) ?_
          refine aw_iload_n hX dX10_load_69 rfl ?_
          refine aw_if_ne hX 93 dX10_load_70 (by decide) (fun c_70 => ?_) (fun c_70 => ?_)
          · exact absurd rfl c_70
          · refine aw_aload_n hX dX10_load_73 rfl ?_
            refine gt_X10_7 hX dX10_load_74 (by assumption) (by exact rfl) ?_
            refine aw_aload_n hX dX10_load_77 rfl ?_
            refine gt_X10_16 hX dX10_load_78 (by assumption) (by exact rfl) ?_
            refine aw_callS0 hX RX10 rfl (tX10_copies _ _ _ e1 has' (by omega)) rfl mf_X10_copies mt_X10_copies kl_X10_46 rfl (by decide) (Nat.le_of_ble_eq_true rfl) dX10_load_81 (by decide) (fun v_81 h_81 p_81 => ?_)
            obtain ⟨rfl, rfl⟩ := p_81
            have g := g.put as
            have ag := ag.set (y + 1) (cI 729 as) (Or.inr rfl)
            obtain ⟨e0, e1⟩ := id g
            refine aw_sipush hX (-2000) dX10_load_84 (by decide) ?_
            refine aw_aload_n hX dX10_load_87 rfl ?_
            refine gt_X10_116 hX dX10_load_88 (by assumption) (by exact rfl) ?_
            refine aw_isub hX dX10_load_91 ?_
            exact aw_iret hX rfl rfl rfl rfl dX10_load_92 (by rw [if_neg (by rw [he]; intro z; have w : (0 : Int32) ≤ nI i2 := nI_pos' (by omega); rw [z] at w; exact absurd w (by decide)), he]; exact ⟨rfl, ⟨_, _, _, as, pa, i2, om, g, hsc.agl ag, (ag _ (by omega) (by omega)).trans hpa, (ag _ (by omega) (by omega)).trans ht, ha, hpast, hl6⟩, sm1.tr ag.sm (Nat.le_refl _) (Nat.le_refl _)⟩)
        refine aw_aload_n hX dX10_load_15 rfl ?_
        refine gt_X10_116 hX dX10_load_16 (by assumption) (by exact rfl) ?_
        refine aw_aload_n hX dX10_load_19 rfl ?_
        refine gt_X10_113 hX dX10_load_20 (by assumption) (by exact rfl) ?_
        refine aw_icmp_ge hX 103 dX10_load_23 (by decide) (fun c_23 => ?_) (fun c_23 => ?_)
        · have n_23 : B.2.2.2 ≤ i := (nI_leI (a := B.2.2.2) (b := i) (by omega) (by omega)).mp c_23
          have r0 : r = 0 := (by omega)
          subst r0
          have hq2 : q0 = (none, (S', it, 0, a', b')) := hq
          refine aw_aload_n hX dX10_load_103 rfl ?_
          refine aw_iconst hX (0) dX10_load_104 (by decide) ?_
          refine pt_X10_113 hX dX10_load_105 (by assumption) (Nat.le_of_ble_eq_true rfl) ?_
          dsimp only [List.set_cons_zero, List.set_cons_succ]
          have qB : HQ (hset hh y (oM y B.2.1.length 0 i om)) y s' (B.1, B.2.1, B.2.2.1, 0) W P o := ⟨pa, i, om, as, ⟨hset_eq _ _ _, (hset_ne _ _ (by omega)).trans e1⟩, (hsc.agl ag).low _ (by omega), (hset_ne _ _ (by omega)).trans ((ag _ (by omega) (by omega)).trans hpa), (hset_ne _ _ (by omega)).trans ((ag _ (by omega) (by omega)).trans ht), (hset_ne _ _ (by omega)).trans ((ag _ (by omega) (by omega)).trans has), ha, hpast, hl6⟩
          have e0 := hset_eq hh y (oM y B.2.1.length 0 i om)
          refine aw_aload_n hX dX10_load_108 rfl ?_
          refine aw_iload_n hX dX10_load_109 rfl ?_
          refine aw_callV0 hX RX10 rfl (tX10_ends _ _ _ qB R _) rfl mf_X10_ends mi_X10_ends ms_X10_ends kl_X10_103 (by assumption) rfl rfl (by decide) (Nat.le_of_ble_eq_true rfl) dX10_load_110 (by decide) (fun v_110 h_110 p_110 => ?_)
          obtain ⟨rfl, q2, s2⟩ := p_110
          exact aw_iret hX rfl rfl rfl rfl dX10_load_113 (by rw [hq2, if_pos (show erI (none, (S', it, 0, a', b')) B.2.2.2 = -1 from rfl)]; exact ⟨rfl, ⟨_, _, _, q2⟩, (sm1.tr ag.sm (Nat.le_refl _) (Nat.le_refl _)).tr ((Sm.rf.set (lo := y) (hi := y + 13) (Nat.le_refl _) (by omega)).tr s2 (Nat.le_refl _) (Nat.le_refl _)) (Nat.le_refl _) (Nat.le_refl _)⟩)
        · have n_23 : ¬ B.2.2.2 ≤ i := fun q => c_23 ((nI_leI (a := B.2.2.2) (b := i) (by omega) (by omega)).mpr q)
          obtain ⟨r2, rfl⟩ : ∃ r2, r = r2 + 1 := ⟨r - 1, by omega⟩
          have hz2 : hz B.2.2.1 (r2 + 1) i = (B.2.2.1 i : Int) := hz_s (by omega)
          have nz : ¬ B.2.2.1 i = 32 := fun q => h32 (by rw [hz2, q]; rfl)
          refine aw_aload_n hX dX10_load_26 rfl ?_
          refine aw_callVp hX RX10 rfl (tX10_here _ _ _ g ht' hlen k2) rfl mf_X10_here mi_X10_here ms_X10_here kl_X10_119 (by assumption) rfl rfl (by decide) (Nat.le_of_ble_eq_true rfl) dX10_load_27 (by decide) ?_
          refine aw_bipush hX (97) dX10_load_30 (by decide) ?_
          refine aw_bipush hX (122) dX10_load_32 (by decide) ?_
          refine aw_callSp hX RX10 rfl (tX10_in _ _ _ _ (iI (hz B.2.2.1 (r2 + 1) i)) 97 122) rfl mf_X10_in mt_X10_in kl_X10_96 rfl (by decide) (Nat.le_of_ble_eq_true rfl) dX10_load_34 (by decide) ?_
          refine aw_if_eq hX 47 dX10_load_37 (by decide) (fun c_37 => ?_) (fun c_37 => ?_)
          · refine aw_aload_n hX dX10_load_47 rfl ?_
            refine aw_callVp hX RX10 rfl (tX10_here _ _ _ g ht' hlen k2) rfl mf_X10_here mi_X10_here ms_X10_here kl_X10_119 (by assumption) rfl rfl (by decide) (Nat.le_of_ble_eq_true rfl) dX10_load_48 (by decide) ?_
            refine aw_bipush hX (62) dX10_load_51 (by decide) ?_
            refine aw_icmp_ne hX 67 dX10_load_53 (by decide) (fun c_53 => ?_) (fun c_53 => ?_)
            · refine aw_iconst hX (0) dX10_load_67 (by decide) ?_
              have naz : ¬ (97 ≤ B.2.2.1 i ∧ B.2.2.1 i ≤ 122) := fun q => bI_eq0.mp c_37 (haz.mpr (by rw [hz2]; omega))
              have n62 : ¬ B.2.2.1 i = 62 := fun q => c_53 (he.mpr (by rw [hz2, q]; rfl))
              exact bad hh s' i _ g ag (by rw [hq]; exact er_fail k2 (fun q => absurd q (Nat.succ_ne_zero r2)) (fun _ => by rw [tkF_0 nz rfl, tkS, if_neg (fun q => n62 q.1), if_neg naz])) (by omega)
            · have h62 : B.2.2.1 i = 62 := by (have q := he.mp c_53; rw [hz2] at q; omega)
              refine aw_aload_n hX dX10_load_56 rfl ?_
              refine aw_callV0 hX RX10 rfl (tX10_isText _ _ _ g ht' hlen htx k2 h62 R it a' b') rfl mf_X10_isText mi_X10_isText ms_X10_isText kl_X10_133 (by assumption) rfl rfl (by decide) (Nat.le_of_ble_eq_true rfl) dX10_load_57 (by decide) (fun v_57 h_57 p_57 => ?_)
              obtain ⟨ag2, q4⟩ := p_57
              rw [show rdF B.2.2.1 (r2 + 1) i (((B.1.1, B.1.2.1, S', B.1.2.2.2) : PV).2.2.1, it, 0, a', b') = q0 from hq.symm] at q4
              have ag2 := ag.tr ag2
              rcases q4 with ⟨rfl, s2, S2, r5, i5, a5, b5, m1, m2, m3, m4, m5⟩ | ⟨rfl, s2, i5, m1, m2, m3⟩
              · (refine aw_if_eq hX 67 dX10_load_60 (by decide) (fun c => absurd c (by decide)) (fun _ => ?_); refine aw_iconst hX (1) dX10_load_63 (by decide) ?_; refine aw_goto hX 68 dX10_load_64 (by decide) ?_; exact good _ s2 S2 r5 i5 a5 b5 _ m1 m2 m3 ag2 m4 m5)
              · (refine aw_if_eq hX 67 dX10_load_60 (by decide) (fun _ => ?_) (fun c => absurd rfl c); refine aw_iconst hX (0) dX10_load_67 (by decide) ?_; exact bad _ s2 i5 _ m1 ag2 m2 m3)
          · have haz2 := haz.mp (Decidable.not_not.mp (fun q => c_37 (bI_eq0.mpr q)))
            rw [hz2] at haz2
            obtain ⟨L, hL⟩ : ∃ L, B.2.2.1 i = 97 + L := ⟨B.2.2.1 i - 97, by omega⟩
            refine aw_aload_n hX dX10_load_40 rfl ?_
            refine aw_callV0 hX RX10 rfl (tX10_isLetter _ _ _ g ht' hlen htx k2 (L := L) (by omega) hL R it a' b') rfl mf_X10_isLetter mi_X10_isLetter ms_X10_isLetter kl_X10_129 (by assumption) rfl rfl (by decide) (Nat.le_of_ble_eq_true rfl) dX10_load_41 (by decide) (fun v_41 h_41 p_41 => ?_)
            obtain ⟨ag2, q4⟩ := p_41
            rw [show rdF B.2.2.1 (r2 + 1) i (((B.1.1, B.1.2.1, S', B.1.2.2.2) : PV).2.2.1, it, 0, a', b') = q0 from hq.symm] at q4
            have ag2 := ag.tr ag2
            rcases q4 with ⟨rfl, s2, S2, r5, i5, a5, b5, m1, m2, m3, m4, m5⟩ | ⟨rfl, s2, i5, m1, m2, m3⟩
            · (refine aw_goto hX 68 dX10_load_44 (by decide) ?_; exact good _ s2 S2 r5 i5 a5 b5 _ m1 m2 m3 ag2 m4 m5)
            · (refine aw_goto hX 68 dX10_load_44 (by decide) ?_; exact bad _ s2 i5 _ m1 ag2 m2 m3)
    obtain ⟨e0, e1⟩ := id g
    refine aw_aload_n hX dX10_load_4 rfl ?_
    refine aw_iconst hX (0) dX10_load_5 (by decide) ?_
    refine pt_X10_116 hX dX10_load_6 (by assumption) (Nat.le_of_ble_eq_true rfl) ?_
    dsimp only [List.set_cons_zero, List.set_cons_succ]
    have g := g.spt 0
    have ag := AGL.set (AGL.rf (h := h1)) y (oM y B.2.1.length B.2.2.2 0 om) (Or.inl rfl)
    have ht' := (ag (y + 5) (by omega) (by omega)).trans ht
    have e0 := g.1
    refine aw_iconst hX (0) dX10_load_9 (by decide) ?_
    refine aw_istore_n hX dX10_load_10 (Nat.le_of_ble_eq_true rfl) ?_
    refine aw_aload_n hX dX10_load_11 rfl ?_
    refine aw_callV0 hX RX10 rfl (tX10_skips _ _ _ g ht' hlen htx (r := B.2.2.2) (by omega)) rfl mf_X10_skips mi_X10_skips ms_X10_skips kl_X10_123 (by assumption) rfl rfl (by decide) (Nat.le_of_ble_eq_true rfl) dX10_load_12 (by decide) (fun v_12 h_12 p_12 => ?_)
    obtain ⟨rfl, i1, r1, j1, j2, g, ag5, j3, j4⟩ := p_12
    have ag := ag.tr ag5
    exact loop (r1 + 1) r1 i1 0 s (BS B) a b _ _ (by omega) j1 g ag g5 j3 (hq0.trans (j4 _ (by show ¬ (0 : Nat) = 3; decide)))
  refine aw_aload_n hX dX10_load_0 rfl ?_
  refine aw_callV0 hX RX10 rfl (tX10_hold _ _ _ q) rfl mf_X10_hold mi_X10_hold ms_X10_hold kl_X10_100 (by assumption) rfl rfl (by decide) (Nat.le_of_ble_eq_true rfl) dX10_load_1 (by decide) (fun v_1 h_1 p_1 => ?_)
  obtain ⟨rfl, q, sm⟩ := p_1
  exact main _ q sm
end REF17
