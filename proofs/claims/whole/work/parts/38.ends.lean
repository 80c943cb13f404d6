/-! the reference: what is saved -/
theorem RS_ext {s s' : IF} {v : PV} {W : Nat} (H : RS s v W) (hv : WS v.2.2.1) (e : ∀ k, k < 729 → s' k = s k) : RS s' v W := by
  obtain ⟨⟨r1, r1'⟩, r2, r3, ⟨r4, r5, r6, r7⟩, r8, r9, r10, r11, r12⟩ := H
  refine ⟨⟨(e 0 (by decide)).trans r1, r1'⟩, fun k hk => (e _ (by omega)).trans (r2 k hk), (e 4 (by decide)).trans r3, ⟨(e 5 (by decide)).trans r4, (e 6 (by decide)).trans r5, (e 7 (by decide)).trans r6, (e 8 (by decide)).trans r7⟩, fun c hc => ?_, fun c r hc hr => (e _ (by omega)).trans (r9 c r hc hr), fun l hl => ?_, fun m hm => ?_, fun k hk hT => (e _ (by omega)).trans (r12 k hk hT)⟩
  · obtain ⟨q1, q2, q3, q4⟩ := r8 c hc
    exact ⟨(e _ (by omega)).trans q1, (e _ (by omega)).trans q2, (e _ (by omega)).trans q3, (e _ (by omega)).trans q4⟩
  · obtain ⟨q1, q2⟩ := r10 l hl
    have h5 := hv.2.1 l hl
    exact ⟨(e _ (by omega)).trans q1, fun i hi => (e _ (by omega)).trans (q2 i hi)⟩
  · obtain ⟨q1, q2⟩ := r11 m hm
    have h8 := hv.1
    have h12 := (hv.2.2 m hm).2.1
    exact ⟨(e _ (by omega)).trans q1, fun i hi => (e _ (by omega)).trans (q2 i hi)⟩
theorem RI_ext {s s' : IF} {v : PV} {W P o : Nat} (H : RI s v W P o) (e : ∀ k, k < 729 → s' k = s k) : RI s' v W P o :=
  ⟨RS_ext H.1 H.2.1.2.2.1 e, H.2⟩
def HRs (h : HP) (y : Nat) (s : IF) (B : FV) (W P o : Nat) : Prop := ∃ pa sp om, HN h y s B.2.1.length B.2.2.2 sp om ∧ SCR h y ∧ h (y + 2) = some (cI 4374 pa) ∧ h (y + 5) = some (cI 120 (nF B.2.2.1)) ∧ RI s B.1 W P o ∧ PAST pa B.2.1 ∧ B.2.1.length ≤ 6
/-- held: the row may change, aside lies the state -/
def HQ (h : HP) (y : Nat) (s : IF) (B : FV) (W P o : Nat) : Prop := ∃ pa sp om a, HN h y s B.2.1.length B.2.2.2 sp om ∧ SCR h y ∧ h (y + 2) = some (cI 4374 pa) ∧ h (y + 5) = some (cI 120 (nF B.2.2.1)) ∧ h (y + 3) = some (cI 729 a) ∧ RI a B.1 W P o ∧ PAST pa B.2.1 ∧ B.2.1.length ≤ 6
def AG (y : Nat) (h h' : HP) : Prop := ∀ q, ¬ q = y → ¬ q = y + 2 → h' q = h q
theorem AG.set {y : Nat} {h h' : HP} (H : AG y h h') (a : Nat) (c : AC) (ha : a = y ∨ a = y + 2) : AG y h (hset h' a c) := fun q h1 h2 => (hset_ne _ _ (by omega)).trans (H q h1 h2)
theorem AG.sm {y : Nat} {h h' : HP} (H : AG y h h') : Sm y (y + 13) h h' := by
  intro q hq
  exact H q (by omega) (by omega)
theorem PAST_keep {pa pa2 : IF} {Hs : List PV} {a : IF} {v : PV} {W P o : Nat} (H : PAST pa Hs) (hl : Hs.length ≤ 6) (R : RI a v W P o) (q1 : ∀ k, k < 729 → pa2 (729 * (if Hs.length = 6 then 5 else Hs.length) + k) = a k) (q2 : ∀ k, k < 729 * (if Hs.length = 6 then 5 else Hs.length) → pa2 k = if Hs.length = 6 then pa (k + 729) else pa k) : PAST pa2 (keepF Hs v) := by
  intro i hi
  unfold keepF at hi ⊢
  by_cases h6 : Hs.length = 6
  · rw [if_neg (by omega)] at hi ⊢
    rw [if_pos h6] at q1 q2
    rw [List.length_append, List.length_tail, List.length_singleton] at hi
    by_cases hi5 : i < 5
    · obtain ⟨w, W', P', o', e1, e2⟩ := H (i + 1) (by omega)
      refine ⟨w, W', P', o', ?_, RI_ext e2 (fun k hk => ?_)⟩
      · rw [List.getElem?_append_left (by rw [List.length_tail]; omega), List.getElem?_tail]
        exact e1
      · rw [q2 _ (by omega), if_pos h6]
        congr 1
        omega
    · refine ⟨v, W, P, o, ?_, RI_ext R (fun k hk => ?_)⟩
      · rw [List.getElem?_append_right (by rw [List.length_tail]; omega), List.length_tail, show i - (Hs.length - 1) = 0 by omega]
        rfl
      · rw [← q1 k hk, show i = 5 by omega]
  · rw [if_pos (by omega)] at hi ⊢
    rw [if_neg h6] at q1 q2
    rw [List.length_append, List.length_singleton] at hi
    by_cases hi5 : i < Hs.length
    · obtain ⟨w, W', P', o', e1, e2⟩ := H i hi5
      refine ⟨w, W', P', o', ?_, RI_ext e2 (fun k hk => ?_)⟩
      · rw [List.getElem?_append_left hi5]
        exact e1
      · rw [q2 _ (by omega), if_neg h6]
    · refine ⟨v, W, P, o, ?_, RI_ext R (fun k hk => ?_)⟩
      · rw [List.getElem?_append_right (by omega), show i - Hs.length = 0 by omega]
        rfl
      · rw [← q1 k hk, show i = Hs.length by omega]
theorem keepF_len {Hs : List PV} {v : PV} (h : Hs.length ≤ 6) : (keepF Hs v).length = if Hs.length = 6 then 6 else Hs.length + 1 := by
  unfold keepF
  split
  · rw [List.length_append, List.length_singleton, if_neg (by omega)]
  · rw [List.length_append, List.length_singleton, List.length_tail, if_pos (by omega)]
    omega
section ENDS
variable {h : HP} {y : Nat} {B : FV} {W P o : Nat} {s : IF}
theorem HR.ex (H : HR h y B W P o) : ∃ s, HRs h y s B W P o := by
  obtain ⟨s, H⟩ := H
  exact ⟨s, H⟩
theorem HRs.hr (H : HRs h y s B W P o) : HR h y B W P o := ⟨s, H⟩
theorem SCR.ag {h' : HP} (H : SCR h y) (e : AG y h h') : SCR h' y := by
  obtain ⟨⟨f1, h1⟩, ⟨f2, h2⟩, ⟨f3, h3⟩, ⟨f4, h4⟩, ⟨f5, h5⟩, ⟨f6, h6⟩, ⟨f7, h7⟩, ⟨f8, h8⟩, ⟨f9, h9⟩⟩ := H
  exact ⟨⟨f1, (e _ (by omega) (by omega)).trans h1⟩, ⟨f2, (e _ (by omega) (by omega)).trans h2⟩, ⟨f3, (e _ (by omega) (by omega)).trans h3⟩, ⟨f4, (e _ (by omega) (by omega)).trans h4⟩, ⟨f5, (e _ (by omega) (by omega)).trans h5⟩, ⟨f6, (e _ (by omega) (by omega)).trans h6⟩, ⟨f7, (e _ (by omega) (by omega)).trans h7⟩, ⟨f8, (e _ (by omega) (by omega)).trans h8⟩, ⟨f9, (e _ (by omega) (by omega)).trans h9⟩⟩
theorem SCR.s3 (H : SCR h y) (f : IF) : SCR (hset h (y + 3) (cI 729 f)) y := by
  obtain ⟨⟨f1, h1⟩, ⟨f2, h2⟩, ⟨f3, h3⟩, ⟨f4, h4⟩, ⟨f5, h5⟩, ⟨f6, h6⟩, ⟨f7, h7⟩, -, ⟨f9, h9⟩⟩ := H
  exact ⟨⟨f1, (hset_ne _ _ (by omega)).trans h1⟩, ⟨f2, (hset_ne _ _ (by omega)).trans h2⟩, ⟨f3, (hset_ne _ _ (by omega)).trans h3⟩, ⟨f4, (hset_ne _ _ (by omega)).trans h4⟩, ⟨f5, (hset_ne _ _ (by omega)).trans h5⟩, ⟨f6, (hset_ne _ _ (by omega)).trans h6⟩, ⟨f7, (hset_ne _ _ (by omega)).trans h7⟩, ⟨f, hset_eq _ _ _⟩, ⟨f9, (hset_ne _ _ (by omega)).trans h9⟩⟩
theorem SCR.low (H : SCR h y) {a : Nat} (c : AC) (ha : a < y + 3 ∨ a = y + 5) : SCR (hset h a c) y := by
  obtain ⟨⟨f1, h1⟩, ⟨f2, h2⟩, ⟨f3, h3⟩, ⟨f4, h4⟩, ⟨f5, h5⟩, ⟨f6, h6⟩, ⟨f7, h7⟩, ⟨f8, h8⟩, ⟨f9, h9⟩⟩ := H
  exact ⟨⟨f1, (hset_ne _ _ (by omega)).trans h1⟩, ⟨f2, (hset_ne _ _ (by omega)).trans h2⟩, ⟨f3, (hset_ne _ _ (by omega)).trans h3⟩, ⟨f4, (hset_ne _ _ (by omega)).trans h4⟩, ⟨f5, (hset_ne _ _ (by omega)).trans h5⟩, ⟨f6, (hset_ne _ _ (by omega)).trans h6⟩, ⟨f7, (hset_ne _ _ (by omega)).trans h7⟩, ⟨f8, (hset_ne _ _ (by omega)).trans h8⟩, ⟨f9, (hset_ne _ _ (by omega)).trans h9⟩⟩
theorem HQ.put (H : HQ h y s B W P o) (s' : IF) : HQ (hset h (y + 1) (cI 729 s')) y s' B W P o := by
  obtain ⟨pa, sp, om, a, ⟨h0, h1⟩, h2, h3, h4, h5, h6⟩ := H
  exact ⟨pa, sp, om, a, ⟨(hset_ne _ _ (by omega)).trans h0, hset_eq _ _ _⟩, h2.low _ (by omega), (hset_ne _ _ (by omega)).trans h3, (hset_ne _ _ (by omega)).trans h4, (hset_ne _ _ (by omega)).trans h5, h6⟩
theorem HQ.pic (H : HQ h y s B W P o) (f : IF) : HQ (hset h (y + 6) (cI 40 f)) y s B W P o := by
  obtain ⟨pa, sp, om, a, h1, h2, h3, h4, h5, h6⟩ := H
  exact ⟨pa, sp, om, a, h1.off _ (by omega), h2.ex6 f, (hset_ne _ _ (by omega)).trans h3, (hset_ne _ _ (by omega)).trans h4, (hset_ne _ _ (by omega)).trans h5, h6⟩
theorem tX10_hold (l : Launch) (E : EV) (n : Nat) (H : HRs h y s B W P o) : MX10_hold l E n h [.ref y] (fun r h' => r = none ∧ HQ h' y s B W P o ∧ Sm y (y + 13) h h') := by
  obtain ⟨pa, sp, om, g1, g2, g3, g4, g5, g6, g7⟩ := H
  obtain ⟨e0, e1⟩ := id g1
  obtain ⟨f8, h8⟩ := g2.2.2.2.2.2.2.2.1
  refine AM.intro mf_X10_hold (by simp [Value.category]) (Nat.le_of_ble_eq_true rfl) (fun X hl hE hnm hX => ?_)
  subst hl
  subst hE
  show AW X _ _ 0 0 0 [some (.ref y)] []
  refine aw_aload_n hX dX10_hold_0 rfl ?_
  refine gt_X10_16 hX dX10_hold_1 (by assumption) (by exact rfl) ?_
  refine aw_aload_n hX dX10_hold_4 rfl ?_
  refine gt_X10_7 hX dX10_hold_5 (by assumption) (by exact rfl) ?_
  refine aw_callS0 hX RX10 rfl (tX10_copies _ _ _ h8 e1 (by omega)) rfl mf_X10_copies mt_X10_copies kl_X10_46 rfl (by decide) (Nat.le_of_ble_eq_true rfl) dX10_hold_8 (by decide) (fun v_8 h_8 p_8 => ?_)
  obtain ⟨rfl, rfl⟩ := p_8
  exact aw_vret hX rfl rfl rfl rfl dX10_hold_11 (by exact ⟨rfl, ⟨pa, sp, om, s, g1.off _ (by omega), g2.s3 s, (hset_ne _ _ (by omega)).trans g3, (hset_ne _ _ (by omega)).trans g4, hset_eq _ _ _, g5, g6, g7⟩, Sm.rf.set (by omega) (by omega)⟩)
theorem tX10_endsR (l : Launch) (E : EV) (n : Nat) {ps ty sp om : Nat} {pa a : IF} (H : HN h y s ps ty sp om) (hps : ps ≤ 6) (hp : h (y + 2) = some (cI 4374 pa)) (ha : h (y + 3) = some (cI 729 a)) (x : Int32) (Q : Option Value → HP → Prop) (hQ : ∀ h' pa2, HN h' y s (if ps = 6 then 6 else ps + 1) ty sp om → AG y h h' → h' (y + 2) = some (cI 4374 pa2) → (∀ k, k < 729 → pa2 (729 * (if ps = 6 then 5 else ps) + k) = a k) → (∀ k, k < 729 * (if ps = 6 then 5 else ps) → pa2 k = if ps = 6 then pa (k + 729) else pa k) → Q (some (.int x)) h') : MX10_ends l E n h [.ref y, .int x] Q := by
  obtain ⟨e0, e1⟩ := H
  refine AM.intro mf_X10_ends (by simp [Value.category]) (Nat.le_of_ble_eq_true rfl) (fun X hl hE hnm hX => ?_)
  subst hl
  subst hE
  show AW X _ _ 0 0 0 [some (.ref y), some (.int x), none] []
  have loop2 : ∀ (g p j : Nat) (pa1 pa2 : IF) (hh : HP), p ≤ 5 → p = (if ps = 6 then 5 else ps) → (∀ k, k < 729 * p → pa1 k = if ps = 6 then pa (k + 729) else pa k) → hh y = some (oM y p ty sp om) → hh (y + 2) = some (cI 4374 pa2) → AG y h hh → j ≤ 729 → 729 - j < g → (∀ k, k < 729 * p → pa2 k = pa1 k) → (∀ k, k < j → pa2 (729 * p + k) = a k) → AW X n hh 0 0 52 [some (.ref y), some (.int x), some (.int (nI j))] [] := by
    intro g
    induction g with
    | zero => intro p j pa1 pa2 hh i1 i2 i3 i4 i5 i6 h1 h2; omega
    | succ g ih =>
      intro p j pa1 pa2 hh i1 i2 i3 i4 i5 i6 h1 h2 h3 h4
      have i7 := (i6 (y + 3) (by omega) (by omega)).trans ha
      refine aw_iload_n hX dX10_ends_52 rfl ?_
      refine aw_sipush hX (729) dX10_ends_53 (by decide) ?_
      refine aw_icmp_ge hX 86 dX10_ends_56 (by decide) (fun c_56 => ?_) (fun c_56 => ?_)
      · have n_56 : 729 ≤ j := (nI_leI (a := 729) (b := j) (by omega) (by omega)).mp c_56
        refine aw_aload_n hX dX10_ends_86 rfl ?_
        refine aw_dup hX dX10_ends_87 rfl ?_
        refine gt_X10_50 hX dX10_ends_88 (by assumption) (by exact rfl) ?_
        refine aw_iconst hX (1) dX10_ends_91 (by decide) ?_
        refine aw_iadd hX dX10_ends_92 ?_
        rw [nI_1]
        refine pt_X10_50 hX dX10_ends_93 (by assumption) (Nat.le_of_ble_eq_true rfl) ?_
        dsimp only [List.set_cons_zero, List.set_cons_succ]
        refine aw_iload_n hX dX10_ends_96 rfl ?_
        exact aw_iret hX rfl rfl rfl rfl dX10_ends_97 (by have hq : p + 1 = (if ps = 6 then 6 else ps + 1) := (by rw [i2]; split <;> rfl); exact hQ _ pa2 ⟨by rw [← hq]; exact hset_eq _ _ _, (hset_ne _ _ (by omega)).trans ((i6 _ (by omega) (by omega)).trans e1)⟩ (i6.set _ _ (Or.inl rfl)) ((hset_ne _ _ (by omega)).trans i5) (by rw [← i2]; exact fun k hk => h4 k (by omega)) (by rw [← i2]; exact fun k hk => (h3 k hk).trans (i3 k hk)))
      · have n_56 : ¬ 729 ≤ j := fun q => c_56 ((nI_leI (a := 729) (b := j) (by omega) (by omega)).mpr q)
        refine aw_aload_n hX dX10_ends_59 rfl ?_
        refine gt_X10_13 hX dX10_ends_60 (by assumption) (by exact rfl) ?_
        refine aw_sipush hX (729) dX10_ends_63 (by decide) ?_
        refine aw_aload_n hX dX10_ends_66 rfl ?_
        refine gt_X10_50 hX dX10_ends_67 (by assumption) (by exact rfl) ?_
        refine aw_imul hX dX10_ends_70 ?_
        refine aw_iload_n hX dX10_ends_71 rfl ?_
        refine aw_iadd hX dX10_ends_72 ?_
        refine AW.top (y := nI (729 * p + j)) (by rw [show (729 : Int32) = nI 729 from rfl, pk_mul, nI_add]) ?_
        refine aw_aload_n hX dX10_ends_73 rfl ?_
        refine gt_X10_16 hX dX10_ends_74 (by assumption) (by exact rfl) ?_
        refine aw_iload_n hX dX10_ends_77 rfl ?_
        refine aw_ialdN hX (j) (by assumption) rfl (by omega) (by first | decide | assumption) dX10_ends_78 ?_
        refine aw_iastN hX (729 * p + j) (by assumption) rfl (by omega) (by first | decide | assumption) dX10_ends_79 ?_
        refine aw_iinc hX (nI (j + 1)) dX10_ends_80 rfl (nI_1 j) ?_
        refine aw_goto hX 52 dX10_ends_83 (by decide) ?_
        exact ih p (j + 1) pa1 (upd pa2 (729 * p + j) (a j)) _ i1 i2 i3 ((hset_ne _ _ (by omega)).trans i4) (hset_eq _ _ _) (i6.set _ _ (Or.inr rfl)) (by omega) (by omega) (fun k hk => (pk_un (by omega)).trans (h3 k hk)) (fun k hk => by by_cases q : k = j; (subst q; exact pk_us); exact (pk_un (by omega)).trans (h4 k (by omega)))
  have loop1 : ∀ (g j : Nat) (pa1 : IF) (hh : HP), ps = 6 → hh y = some (oM y 6 ty sp om) → hh (y + 2) = some (cI 4374 pa1) → AG y h hh → j ≤ 3645 → 3645 - j < g → (∀ k, k < j → pa1 k = pa (k + 729)) → (∀ k, j ≤ k → pa1 k = pa k) → AW X n hh 0 0 11 [some (.ref y), some (.int x), some (.int (nI j))] [] := by
    intro g
    induction g with
    | zero => intro j pa1 hh i2 i4 i5 i6 h1 h2; omega
    | succ g ih =>
      intro j pa1 hh i2 i4 i5 i6 h1 h2 h3 h4
      refine aw_iload_n hX dX10_ends_11 rfl ?_
      refine aw_sipush hX (3645) dX10_ends_12 (by decide) ?_
      refine aw_icmp_ge hX 40 dX10_ends_15 (by decide) (fun c_15 => ?_) (fun c_15 => ?_)
      · have n_15 : 3645 ≤ j := (nI_leI (a := 3645) (b := j) (by omega) (by omega)).mp c_15
        refine aw_aload_n hX dX10_ends_40 rfl ?_
        refine aw_dup hX dX10_ends_41 rfl ?_
        refine gt_X10_50 hX dX10_ends_42 (by assumption) (by exact rfl) ?_
        refine aw_iconst hX (1) dX10_ends_45 (by decide) ?_
        refine aw_isub hX dX10_ends_46 ?_
        rw [show nI 6 - 1 = nI 5 from pk_sub (b := 1) (by decide)]
        refine pt_X10_50 hX dX10_ends_47 (by assumption) (Nat.le_of_ble_eq_true rfl) ?_
        dsimp only [List.set_cons_zero, List.set_cons_succ]
        refine aw_iconst hX (0) dX10_ends_50 (by decide) ?_
        refine aw_istore_n hX dX10_ends_51 (Nat.le_of_ble_eq_true rfl) ?_
        have hj : j = 3645 := by omega
        subst hj
        exact loop2 730 5 0 pa1 pa1 _ (by decide) (by rw [if_pos i2]) (fun k hk => by rw [if_pos i2]; exact h3 k (by omega)) (hset_eq _ _ _) ((hset_ne _ _ (by omega)).trans i5) (i6.set _ _ (Or.inl rfl)) (by decide) (by decide) (fun k hk => rfl) (fun k hk => absurd hk (by omega))
      · have n_15 : ¬ 3645 ≤ j := fun q => c_15 ((nI_leI (a := 3645) (b := j) (by omega) (by omega)).mpr q)
        refine aw_aload_n hX dX10_ends_18 rfl ?_
        refine gt_X10_13 hX dX10_ends_19 (by assumption) (by exact rfl) ?_
        refine aw_iload_n hX dX10_ends_22 rfl ?_
        refine aw_aload_n hX dX10_ends_23 rfl ?_
        refine gt_X10_13 hX dX10_ends_24 (by assumption) (by exact rfl) ?_
        refine aw_iload_n hX dX10_ends_27 rfl ?_
        refine aw_sipush hX (729) dX10_ends_28 (by decide) ?_
        refine aw_iadd hX dX10_ends_31 ?_
        refine aw_ialdN hX (j + 729) (by assumption) (nI_add j 729) (by omega) (by first | decide | assumption) dX10_ends_32 ?_
        refine aw_iastN hX (j) (by assumption) rfl (by omega) (by first | decide | assumption) dX10_ends_33 ?_
        refine aw_iinc hX (nI (j + 1)) dX10_ends_34 rfl (nI_1 j) ?_
        refine aw_goto hX 11 dX10_ends_37 (by decide) ?_
        exact ih (j + 1) (upd pa1 j (pa1 (j + 729))) _ i2 ((hset_ne _ _ (by omega)).trans i4) (hset_eq _ _ _) (i6.set _ _ (Or.inr rfl)) (by omega) (by omega) (fun k hk => by by_cases q : k = j; (subst q; exact pk_us.trans (h4 _ (by omega))); exact (pk_un q).trans (h3 k (by omega))) (fun k hk => (pk_un (by omega)).trans (h4 k (by omega)))
  refine aw_aload_n hX dX10_ends_0 rfl ?_
  refine gt_X10_50 hX dX10_ends_1 (by assumption) (by exact rfl) ?_
  refine aw_bipush hX (6) dX10_ends_4 (by decide) ?_
  refine aw_icmp_ne hX 50 dX10_ends_6 (by decide) (fun c_6 => ?_) (fun c_6 => ?_)
  · have n_6 : ¬ ps = 6 := fun q => c_6 ((nI_eq (a := ps) (b := 6) (by omega) (by omega)).mpr q)
    refine aw_iconst hX (0) dX10_ends_50 (by decide) ?_
    refine aw_istore_n hX dX10_ends_51 (Nat.le_of_ble_eq_true rfl) ?_
    exact loop2 730 ps 0 pa pa h (by omega) (by rw [if_neg n_6]) (fun k hk => by rw [if_neg n_6]) e0 hp (fun q _ _ => rfl) (by decide) (by decide) (fun k hk => rfl) (fun k hk => absurd hk (by omega))
  · have n_6 : ps = 6 := (nI_eq (a := ps) (b := 6) (by omega) (by omega)).mp c_6
    refine aw_iconst hX (0) dX10_ends_9 (by decide) ?_
    refine aw_istore_n hX dX10_ends_10 (Nat.le_of_ble_eq_true rfl) ?_
    exact loop1 3646 0 pa h n_6 (by rw [← n_6]; exact e0) hp (fun q _ _ => rfl) (by decide) (by decide) (fun k hk => absurd hk (by omega)) (fun k hk => rfl)
theorem tX10_ends (l : Launch) (E : EV) (n : Nat) (H : HQ h y s B W P o) {v' : PV} {W' P' o' : Nat} (R : RI s v' W' P' o') (x : Int32) : MX10_ends l E n h [.ref y, .int x] (fun r h' => r = some (.int x) ∧ HR h' y (v', keepF B.2.1 B.1, B.2.2) W' P' o' ∧ Sm y (y + 13) h h') := by
  obtain ⟨pa, sp, om, a, g1, g2, g3, g4, g5, g6, g7, g8⟩ := H
  exact tX10_endsR l E n g1 g8 g3 g5 x _ (fun h' pa2 k1 k2 k3 k4 k5 => ⟨rfl, ⟨s, pa2, sp, om, by rw [keepF_len g8]; exact k1, g2.ag k2, k3, (k2 _ (by omega) (by omega)).trans g4, R, PAST_keep g7 g8 g6 k4 k5, by rw [keepF_len g8]; split <;> omega⟩, k2.sm⟩)
end ENDS
