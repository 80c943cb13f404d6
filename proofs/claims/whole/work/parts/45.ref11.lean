/-! the reference: a message less -/
theorem sh_in {a t z q : Nat} {f : Nat → Nat} (h : a ≤ q ∧ q < t) : shN a t z f q = f (q + z) := if_pos h
theorem sh_out {a t z q : Nat} {f : Nat → Nat} (h : q < a) : shN a t z f q = f q := if_neg (by omega)
section REF11
variable {h : HP} {y : Nat} {B : FV} {W P o : Nat} {s : IF} {v : PV}
theorem RI.drop {s' : IF} (H : RI s v W P o) {m z : Nat} (hK : v.2.2.1.2.2.2.2 = z + 1) (hm : m ≤ z) (e4 : s' 4 = nI z) (e1 : ∀ q, 605 + 13 * m ≤ q → q < 605 + 13 * z → s' q = s (q + 13)) (e2 : ∀ q, ¬ q = 4 → q < 605 + 13 * m ∨ 605 + 13 * z ≤ q → s' q = s q) : RI s' (v.1, v.2.1, (v.2.2.1.1, v.2.2.1.2.1, shN (m * 12) 84 12 v.2.2.1.2.2.1, shN m 7 1 v.2.2.1.2.2.2.1, v.2.2.1.2.2.2.2 - 1), v.2.2.2) W P o := by
  obtain ⟨b1, b2, b3⟩ := H.2.1.2.2.1
  have h7 := H.1.2.2.2.2.2.2.1
  have h8 := H.1.2.2.2.2.2.2.2.1
  have hk1 : v.2.2.1.2.2.2.2 - 1 = z := by omega
  rw [hk1]
  have L : ∀ i, i < z → shN m 7 1 v.2.2.1.2.2.2.1 i = v.2.2.1.2.2.2.1 (if i < m then i else i + 1) := fun i hi => by
    by_cases q : i < m
    · rw [sh_out q, if_pos q]
    · rw [sh_in (by omega), if_neg q]
  have C : ∀ i j, i < z → j < 12 → shN (m * 12) 84 12 v.2.2.1.2.2.1 (i * 12 + j) = v.2.2.1.2.2.1 ((if i < m then i else i + 1) * 12 + j) := fun i j hi hj => by
    by_cases q : i < m
    · rw [sh_out (by omega), if_pos q]
    · rw [sh_in (by omega), if_neg q]
      exact congrArg v.2.2.1.2.2.1 (by omega)
  have X : ∀ i, i < z → (if i < m then i else i + 1) < v.2.2.1.2.2.2.2 := fun i hi => by split <;> omega
  have T : ∀ i j, i < z → j < 13 → s' (605 + 13 * i + j) = s (605 + 13 * (if i < m then i else i + 1) + j) := fun i j hi hj => by
    by_cases q : i < m
    · rw [if_pos q]
      exact e2 _ (by omega) (by omega)
    · rw [if_neg q, e1 _ (by omega) (by omega)]
      congr 1
      omega
  refine H.scr (fun k hk => e2 k (by omega) (by omega)) e4 ⟨by show z ≤ 8; omega, b2, fun i hi => ?_⟩ H.2.2.1 (fun l hl => ?_) (fun i hi => ?_)
  · obtain ⟨c1, c2, c3⟩ := b3 _ (X i hi)
    show 1 ≤ shN m 7 1 v.2.2.1.2.2.2.1 i ∧ shN m 7 1 v.2.2.1.2.2.2.1 i ≤ 12 ∧ ∀ j, j < shN m 7 1 v.2.2.1.2.2.2.1 i → shN (m * 12) 84 12 v.2.2.1.2.2.1 (i * 12 + j) ≤ 26
    rw [L i hi]
    exact ⟨c1, c2, fun j hj => by rw [C i j hi (by omega)]; exact c3 j hj⟩
  · obtain ⟨q1, q2⟩ := h7 l hl
    have h5 := b2 l hl
    exact ⟨(e2 _ (by omega) (by omega)).trans q1, fun i hi => (e2 _ (by have hi' : i < v.2.2.1.2.1 l := hi; omega) (by have hi' : i < v.2.2.1.2.1 l := hi; omega)).trans (q2 i hi)⟩
  · obtain ⟨c1, c2, c3⟩ := b3 _ (X i hi)
    obtain ⟨q1, q2⟩ := h8 _ (X i hi)
    show s' (605 + 13 * i) = nI (shN m 7 1 v.2.2.1.2.2.2.1 i) ∧ ∀ j, j < shN m 7 1 v.2.2.1.2.2.2.1 i → s' (605 + 13 * i + 1 + j) = nI (shN (m * 12) 84 12 v.2.2.1.2.2.1 (i * 12 + j))
    rw [L i hi]
    refine ⟨(T i 0 hi (by decide)).trans q1, fun j hj => ?_⟩
    rw [C i j hi (by omega), ← q2 j hj, Nat.add_assoc (605 + 13 * i) 1 j, T i (1 + j) hi (by omega)]
    exact congrArg s (Nat.add_assoc _ _ _).symm
theorem tX10_removeMessage (l : Launch) (E : EV) (n : Nat) (H : HR h y B W P o) (a : Int32) : MX10_removeMessage l E n h [.ref y, .int a] (PM y h (fRemoveMessage B a)) := by
  have e := H
  obtain ⟨s, q⟩ := H
  obtain ⟨pa, sp, om, g1, g2, g3, g4, g5, g6, g7⟩ := id q
  obtain ⟨e0, e1⟩ := id g1
  have r3 : s 4 = nI B.1.2.2.1.2.2.2.2 := g5.1.2.2.1
  have hK8 : B.1.2.2.1.2.2.2.2 ≤ 8 := g5.2.1.2.2.1.1
  refine AM.intro mf_X10_removeMessage (by simp [Value.category]) (Nat.le_of_ble_eq_true rfl) (fun X hl hE hnm hX => ?_)
  subst hl
  subst hE
  show AW X _ _ 0 0 0 [some (.ref y), some (.int a), none] []
  have loop : ∀ (g m z j : Nat) (s' : IF) (hh : HP), B.1.2.2.1.2.2.2.2 = z + 1 → m ≤ z → fRemoveMessage B a = (nI z, setS B ((BS B).1, (BS B).2.1, shN (m * 12) 84 12 (BS B).2.2.1, shN m 7 1 (BS B).2.2.2.1, (BS B).2.2.2.2 - 1)) → 605 + 13 * m ≤ j → j ≤ 605 + 13 * z → 605 + 13 * z - j < g → HQ hh y s' B W P o → Sm y (y + 13) h hh → s' 4 = nI z → (∀ q, 605 + 13 * m ≤ q → q < j → s' q = s (q + 13)) → (∀ q, ¬ q = 4 → q < 605 + 13 * m ∨ j ≤ q → s' q = s q) → AW X n hh 0 0 35 [some (.ref y), some (.int a), some (.int (nI j))] [] := by
    intro g
    induction g with
    | zero => intro m z j s' hh i1 i2 i3 i4 i5 i6; omega
    | succ g ih =>
      intro m z j s' hh i1 i2 i3 i4 i5 i6 q sm k1 k2 k3
      obtain ⟨ps, ty, sp2, om2, g1⟩ := q.n
      obtain ⟨e0, e1⟩ := id g1
      refine aw_iload_n hX dX10_removeMessage_35 rfl ?_
      refine aw_sipush hX (605) dX10_removeMessage_36 (by decide) ?_
      refine aw_bipush hX (13) dX10_removeMessage_39 (by decide) ?_
      refine aw_aload_n hX dX10_removeMessage_41 rfl ?_
      refine gt_X10_7 hX dX10_removeMessage_42 (by assumption) (by exact rfl) ?_
      refine aw_iconst hX (4) dX10_removeMessage_45 (by decide) ?_
      refine aw_ialdN hX (4) (by assumption) rfl (by decide) (by first | decide | assumption) dX10_removeMessage_46 ?_
      rw [k1]
      refine aw_imul hX dX10_removeMessage_47 ?_
      refine aw_iadd hX dX10_removeMessage_48 ?_
      rw [ix_m]
      refine aw_icmp_ge hX 73 dX10_removeMessage_49 (by decide) (fun c_49 => ?_) (fun c_49 => ?_)
      · have n_49 : 605 + 13 * z ≤ j := (nI_leI (a := 605 + 13 * z) (b := j) (by omega) (by omega)).mp c_49
        refine aw_aload_n hX dX10_removeMessage_73 rfl ?_
        refine aw_aload_n hX dX10_removeMessage_74 rfl ?_
        refine gt_X10_7 hX dX10_removeMessage_75 (by assumption) (by exact rfl) ?_
        refine aw_iconst hX (4) dX10_removeMessage_78 (by decide) ?_
        refine aw_ialdN hX (4) (by assumption) rfl (by decide) (by first | decide | assumption) dX10_removeMessage_79 ?_
        rw [k1]
        refine aw_callV0 hX RX10 rfl (tX10_ends _ _ _ q (g5.drop i1 i2 k1 (fun q h1 h2 => k2 q h1 (by omega)) (fun q h1 h2 => k3 q h1 (by omega))) _) rfl mf_X10_ends mi_X10_ends ms_X10_ends kl_X10_103 (by assumption) rfl rfl (by decide) (Nat.le_of_ble_eq_true rfl) dX10_removeMessage_80 (by decide) (fun v_80 h_80 p_80 => ?_)
        obtain ⟨rfl, q, s2⟩ := p_80
        exact aw_iret hX rfl rfl rfl rfl dX10_removeMessage_83 (by rw [i3]; exact ⟨rfl, ⟨_, _, _, q⟩, sm.tr s2 (Nat.le_refl _) (Nat.le_refl _)⟩)
      · have n_49 : ¬ 605 + 13 * z ≤ j := fun q => c_49 ((nI_leI (a := 605 + 13 * z) (b := j) (by omega) (by omega)).mpr q)
        refine aw_aload_n hX dX10_removeMessage_52 rfl ?_
        refine gt_X10_7 hX dX10_removeMessage_53 (by assumption) (by exact rfl) ?_
        refine aw_iload_n hX dX10_removeMessage_56 rfl ?_
        refine aw_aload_n hX dX10_removeMessage_57 rfl ?_
        refine gt_X10_7 hX dX10_removeMessage_58 (by assumption) (by exact rfl) ?_
        refine aw_iload_n hX dX10_removeMessage_61 rfl ?_
        refine aw_bipush hX (13) dX10_removeMessage_62 (by decide) ?_
        refine aw_iadd hX dX10_removeMessage_64 ?_
        refine aw_ialdN hX (j + 13) (by assumption) (nI_add j 13) (by omega) (by first | decide | assumption) dX10_removeMessage_65 ?_
        rw [k3 (j + 13) (by omega) (by omega)]
        refine aw_iastN hX (j) (by assumption) rfl (by omega) (by first | decide | assumption) dX10_removeMessage_66 ?_
        refine aw_iinc hX (nI (j + 1)) dX10_removeMessage_67 rfl (nI_1 j) ?_
        refine aw_goto hX 35 dX10_removeMessage_70 (by decide) ?_
        exact ih m z (j + 1) (upd s' j (s (j + 13))) _ i1 i2 i3 (by omega) (by omega) (by omega) (q.put _) (sm.set (by omega) (by omega)) ((pk_un (by omega)).trans k1) (fun q h1 h2 => by by_cases e : q = j; (subst e; exact pk_us); exact (pk_un e).trans (k2 q h1 (by omega))) (fun q h1 h2 => (pk_un (by omega)).trans (k3 q h1 (by omega)))
  refine aw_aload_n hX dX10_removeMessage_0 rfl ?_
  refine aw_iload_n hX dX10_removeMessage_1 rfl ?_
  refine aw_callVp hX RX10 rfl (tX10_isMsg _ _ _ g1 g5 a) rfl mf_X10_isMessage mi_X10_isMessage ms_X10_isMessage kl_X10_110 (by assumption) rfl rfl (by decide) (Nat.le_of_ble_eq_true rfl) dX10_removeMessage_2 (by decide) ?_
  refine aw_if_ne hX 12 dX10_removeMessage_5 (by decide) (fun c_5 => ?_) (fun c_5 => ?_)
  · have hv := Decidable.not_not.mp (fun q => c_5 (bI_eq0.mpr q))
    obtain ⟨m, hm, hma⟩ := rng B.1.2.2.1.2.2.2.2 (by omega) hv.1 hv.2.1
    obtain ⟨z, hz⟩ : ∃ z, B.1.2.2.1.2.2.2.2 = z + 1 := ⟨B.1.2.2.1.2.2.2.2 - 1, by omega⟩
    have hfr : fRemoveMessage B a = (nI z, setS B ((BS B).1, (BS B).2.1, shN (m * 12) 84 12 (BS B).2.2.1, shN m 7 1 (BS B).2.2.2.1, (BS B).2.2.2.2 - 1)) := by rw [fRemoveMessage, if_pos hv, show a.toNatClampNeg = m by rw [hma]; exact nI_clamp (by omega), show (BS B).2.2.2.2 - 1 = z by show B.1.2.2.1.2.2.2.2 - 1 = z; omega]
    refine aw_aload_n hX dX10_removeMessage_12 rfl ?_
    refine aw_callV0 hX RX10 rfl (tX10_hold _ _ _ q) rfl mf_X10_hold mi_X10_hold ms_X10_hold kl_X10_100 (by assumption) rfl rfl (by decide) (Nat.le_of_ble_eq_true rfl) dX10_removeMessage_13 (by decide) (fun v_13 h_13 p_13 => ?_)
    obtain ⟨rfl, q, sm⟩ := p_13
    obtain ⟨ps, ty, sp2, om2, g1⟩ := q.n
    obtain ⟨e0, e1⟩ := id g1
    refine aw_aload_n hX dX10_removeMessage_16 rfl ?_
    refine gt_X10_7 hX dX10_removeMessage_17 (by assumption) (by exact rfl) ?_
    refine aw_iconst hX (4) dX10_removeMessage_20 (by decide) ?_
    refine aw_dup2 hX dX10_removeMessage_21 rfl rfl ?_
    refine aw_ialdN hX (4) (by assumption) rfl (by decide) (by first | decide | assumption) dX10_removeMessage_22 ?_
    rw [r3, hz]
    refine aw_iconst hX (1) dX10_removeMessage_23 (by decide) ?_
    refine aw_isub hX dX10_removeMessage_24 ?_
    rw [show nI (z + 1) - 1 = nI z from pk_sub (b := 1) (by omega)]
    refine aw_iastN hX (4) (by assumption) rfl (by decide) (by first | decide | assumption) dX10_removeMessage_25 ?_
    refine aw_sipush hX (605) dX10_removeMessage_26 (by decide) ?_
    refine aw_bipush hX (13) dX10_removeMessage_29 (by decide) ?_
    refine aw_iload_n hX dX10_removeMessage_31 rfl ?_
    refine aw_imul hX dX10_removeMessage_32 ?_
    refine aw_iadd hX dX10_removeMessage_33 ?_
    rw [hma, ix_m]
    refine aw_istore_n hX dX10_removeMessage_34 (Nat.le_of_ble_eq_true rfl) ?_
    rw [← hma]
    exact loop (13 * z + 1) m z (605 + 13 * m) (upd s 4 (nI z)) _ hz (by omega) hfr (Nat.le_refl _) (by omega) (by omega) (q.put _) (sm.set (by omega) (by omega)) pk_us (fun q h1 h2 => absurd h2 (by omega)) (fun q h1 h2 => pk_un h1)
  · refine aw_sipush hX (-1001) dX10_removeMessage_8 (by decide) ?_
    exact aw_iret hX rfl rfl rfl rfl dX10_removeMessage_11 (by rw [fRemoveMessage, if_neg (bI_eq0.mp c_5)]; exact ⟨rfl, ⟨_, _, _, e⟩, Sm.rf⟩)
end REF11
