/-! Orders: gathering, measuring, finding -/
def memL (M : Int32) (i : Nat) : List Nat := (List.range i).filter (fun j => decide (¬ M &&& mk j = 0))
theorem memL_succ (M : Int32) (i : Nat) : memL M (i + 1) = if M &&& mk i = 0 then memL M i else memL M i ++ [i] := by
  unfold memL
  rw [List.range_succ, List.filter_append]
  split
  · rename_i h
    simp [h]
  · rename_i h
    simp [h]
theorem memL_mono (M : Int32) (i : Nat) : ∀ s, (memL M i).length ≤ (memL M (i + s)).length
  | 0 => Nat.le_refl _
  | s + 1 => by
    have h := memL_mono M i s
    rw [← Nat.add_assoc, memL_succ]
    split
    · exact h
    · rw [List.length_append]; omega
def ipF (st : Nat → IF) (z m : Nat) : Nat → (Nat → IF) → Nat → IF
  | 0, T => T
  | j + 1, T => va_up (ipF st z m j T) m (upd (ipF st z m j T m) j (fbF st (ipF st z m j T) j (nbk st (ipF st z m j T) j m z).1 m))
def FEt (st : Nat → IF) (z : Nat) : Nat → (Nat → IF) → Nat → IF
  | 0, T => T
  | m + 1, T => ipF st z (m + 1) (z + 1) (FEt st z m T)
/-- what is left, and the last, behind k steps -/
def maF (st fe : Nat → IF) (z : Nat) : Nat → Nat × Nat
  | 0 => (2 ^ z - 1, 0)
  | k + 1 => (wo (maF st fe z k).1 (nbk st fe (maF st fe z k).2 (maF st fe z k).1 z).1, (nbk st fe (maF st fe z k).2 (maF st fe z k).1 z).1)
theorem p2_lt {z : Nat} (hz : z < 6) : 2 ^ z - 1 < 32 := by
  have : 2 ^ z ≤ 2 ^ 5 := Nat.pow_le_pow_right (by decide) (by omega)
  omega
theorem maF_in (st fe : Nat → IF) {z : Nat} (hz : z < 6) : ∀ k, (maF st fe z k).1 < 32 ∧ (maF st fe z k).2 < 6
  | 0 => ⟨p2_lt hz, by show 0 < 6; decide⟩
  | k + 1 => ⟨wo_lt (maF_in st fe hz k).1, Nat.lt_of_le_of_lt (nbk_le st fe _ _ z) hz⟩
section FIND
variable {h : HP} {a : Nat} {O : OV}
theorem tX4_messageAt (l : Launch) (E : EV) (n : Nat) (H : HOrd h a O) (hz : O.2.2.2.2 < 6) {k : Nat} (hk : k ≤ O.2.2.2.2) : MX4_messageAt l E n h [.ref a, .int (nI k)] (PR (.int (O.1 (maF O.2.2.1 O.2.2.2.1 O.2.2.2.2 k).2)) h) := by
  have e := H
  obtain ⟨e0, e1, e2, e3, e4⟩ := H
  refine AM.intro mf_X4_messageAt (by simp [Value.category]) (Nat.le_of_ble_eq_true rfl) (fun X hl hE hnm hX => ?_)
  subst hl
  subst hE
  show AW X _ _ 0 0 0 [some (.ref a), some (.int (nI k)), none, none, none] []
  have loop : ∀ (g j : Nat), j ≤ k → k - j < g → AW X n h 0 0 10 [some (.ref a), some (.int (nI k)), some (.int (nI (maF O.2.2.1 O.2.2.2.1 O.2.2.2.2 j).1)), some (.int (nI (maF O.2.2.1 O.2.2.2.1 O.2.2.2.2 j).2)), some (.int (nI j))] [] := by
    intro g
    induction g with
    | zero => intro j h1 h2; omega
    | succ g ih =>
      intro j h1 h2
      obtain ⟨i1, i2⟩ := maF_in O.2.2.1 O.2.2.2.1 hz j
      have i3 := nbk_le O.2.2.1 O.2.2.2.1 (maF O.2.2.1 O.2.2.2.1 O.2.2.2.2 j).2 (maF O.2.2.1 O.2.2.2.1 O.2.2.2.2 j).1 O.2.2.2.2
      refine aw_iload hX dX4_messageAt_10 rfl ?_
      refine aw_iload_n hX dX4_messageAt_12 rfl ?_
      refine aw_icmp_ge hX 44 dX4_messageAt_13 (by decide) (fun c_13 => ?_) (fun c_13 => ?_)
      · have hj : j = k := lp_out h1 (by omega) c_13
        subst hj
        refine aw_iload_n hX dX4_messageAt_44 rfl ?_
        refine aw_if_lt hX 63 dX4_messageAt_45 (by decide) (fun c_45 => ?_) (fun c_45 => ?_)
        · exact absurd c_45 (nI_pos (by omega))
        · refine aw_iload_n hX dX4_messageAt_48 rfl ?_
          refine aw_bipush hX (6) dX4_messageAt_49 (by decide) ?_
          refine aw_icmp_ge hX 63 dX4_messageAt_51 (by decide) (fun c_51 => ?_) (fun c_51 => ?_)
          · exact absurd c_51 (nI_ge (b := 6) i2 (by decide))
          · refine aw_aload_n hX dX4_messageAt_54 rfl ?_
            refine gt_X4_11 hX dX4_messageAt_55 (by assumption) (by exact rfl) ?_
            refine aw_iload_n hX dX4_messageAt_58 rfl ?_
            refine aw_ialdN hX ((maF O.2.2.1 O.2.2.2.1 O.2.2.2.2 j).2) (by assumption) rfl i2 (by first | decide | assumption) dX4_messageAt_59 ?_
            refine aw_goto hX 64 dX4_messageAt_60 (by decide) ?_
            exact aw_iret hX rfl rfl rfl rfl dX4_messageAt_64 (by exact ⟨rfl, rfl⟩)
      · refine aw_iload hX dX4_messageAt_16 rfl ?_
        refine aw_aload_n hX dX4_messageAt_18 rfl ?_
        refine gt_X4_26 hX dX4_messageAt_19 (by assumption) (by exact rfl) ?_
        refine aw_icmp_ge hX 44 dX4_messageAt_22 (by decide) (fun c_22 => ?_) (fun c_22 => ?_)
        · exact absurd c_22 (nI_ge (Nat.lt_of_lt_of_le (lp_in h1 (by omega) c_13) hk) (by omega))
        · refine aw_aload_n hX dX4_messageAt_25 rfl ?_
          refine aw_iload_n hX dX4_messageAt_26 rfl ?_
          refine aw_iload_n hX dX4_messageAt_27 rfl ?_
          refine aw_callVp hX RX4 rfl (tX4_nextBehind _ _ _ e hz i2 i1) rfl mf_X4_nextBehind mi_X4_nextBehind ms_X4_nextBehind kl_X4_48 (by assumption) rfl rfl (by decide) (Nat.le_of_ble_eq_true rfl) dX4_messageAt_28 (by decide) ?_
          refine aw_istore_n hX dX4_messageAt_31 (Nat.le_of_ble_eq_true rfl) ?_
          refine aw_iload_n hX dX4_messageAt_32 rfl ?_
          refine aw_iload_n hX dX4_messageAt_33 rfl ?_
          refine aw_callSp hX RX4 rfl (tX4_without _ _ _ _ i1 (by omega)) rfl mf_X4_without mt_X4_without kl_X4_56 rfl (by decide) (Nat.le_of_ble_eq_true rfl) dX4_messageAt_34 (by decide) ?_
          refine aw_istore_n hX dX4_messageAt_37 (Nat.le_of_ble_eq_true rfl) ?_
          refine aw_iinc hX (nI (j + 1)) dX4_messageAt_38 rfl (nI_1 j) ?_
          refine aw_goto hX 10 dX4_messageAt_41 (by decide) ?_
          have hj := lp_in h1 (by omega) c_13
          exact ih (j + 1) hj (by omega)
  refine aw_aload_n hX dX4_messageAt_0 rfl ?_
  refine aw_callVp hX RX4 rfl (tX4_wholeSet _ _ _ e hz) rfl mf_X4_wholeSet mi_X4_wholeSet ms_X4_wholeSet kl_X4_44 (by assumption) rfl rfl (by decide) (Nat.le_of_ble_eq_true rfl) dX4_messageAt_1 (by decide) ?_
  refine aw_istore_n hX dX4_messageAt_4 (Nat.le_of_ble_eq_true rfl) ?_
  refine aw_iconst hX (0) dX4_messageAt_5 (by decide) ?_
  refine aw_istore_n hX dX4_messageAt_6 (Nat.le_of_ble_eq_true rfl) ?_
  refine aw_iconst hX (0) dX4_messageAt_7 (by decide) ?_
  refine aw_istore hX dX4_messageAt_8 (Nat.le_of_ble_eq_true rfl) ?_
  exact loop (k + 1) 0 (by omega) (by omega)
theorem tX4_fewestFlips (l : Launch) (E : EV) (n : Nat) (H : HOrd h a O) (hz : O.2.2.2.2 < 6) : MX4_fewestFlips l E n h [.ref a] (PR (.int (O.2.2.2.1 (2 ^ O.2.2.2.2 - 1) 0)) h) := by
  have e := H
  have hp := p2_lt hz
  obtain ⟨e0, e1, e2, e3, ⟨⟨g4, e4, q4⟩, r4⟩⟩ := H
  have r4' := r4 _ hp
  refine AM.intro mf_X4_fewestFlips (by simp [Value.category]) (Nat.le_of_ble_eq_true rfl) (fun X hl hE hnm hX => ?_)
  subst hl
  subst hE
  show AW X _ _ 0 0 0 [some (.ref a), none] []
  refine aw_aload_n hX dX4_fewestFlips_0 rfl ?_
  refine aw_callVp hX RX4 rfl (tX4_wholeSet _ _ _ e hz) rfl mf_X4_wholeSet mi_X4_wholeSet ms_X4_wholeSet kl_X4_44 (by assumption) rfl rfl (by decide) (Nat.le_of_ble_eq_true rfl) dX4_fewestFlips_1 (by decide) ?_
  refine aw_istore_n hX dX4_fewestFlips_4 (Nat.le_of_ble_eq_true rfl) ?_
  refine aw_iload_n hX dX4_fewestFlips_5 rfl ?_
  refine aw_if_lt hX 26 dX4_fewestFlips_6 (by decide) (fun c_6 => ?_) (fun c_6 => ?_)
  · exact absurd c_6 (nI_pos (by omega))
  · refine aw_iload_n hX dX4_fewestFlips_9 rfl ?_
    refine aw_bipush hX (32) dX4_fewestFlips_10 (by decide) ?_
    refine aw_icmp_ge hX 26 dX4_fewestFlips_12 (by decide) (fun c_12 => ?_) (fun c_12 => ?_)
    · exact absurd c_12 (nI_ge (b := 32) hp (by decide))
    · refine aw_aload_n hX dX4_fewestFlips_15 rfl ?_
      refine gt_X4_23 hX dX4_fewestFlips_16 (by assumption) (by exact rfl) ?_
      refine aw_iload_n hX dX4_fewestFlips_19 rfl ?_
      refine aw_aaldN hX (2 ^ O.2.2.2.2 - 1) (by assumption) (by decide) rfl hp (by decide) (q4 _ hp) dX4_fewestFlips_20 ?_
      refine aw_iconst hX (0) dX4_fewestFlips_21 (by decide) ?_
      refine aw_ialdN hX (0) (by assumption) rfl (by decide) (by first | decide | assumption) dX4_fewestFlips_22 ?_
      refine aw_goto hX 27 dX4_fewestFlips_23 (by decide) ?_
      exact aw_iret hX rfl rfl rfl rfl dX4_fewestFlips_27 (by exact ⟨rfl, rfl⟩)
theorem tX4_measure (l : Launch) (E : EV) (n : Nat) (H : HOrd h a O) (hz : O.2.2.2.2 < 6) {d : Nat} {v : PV} (Hd : HD h d v.1) (hd : d + 6 ≤ a ∨ a + 49 ≤ d) : MX4_measure l E n h [.ref a, .ref d] (fun r h' => r = none ∧ ∃ st, HOrd h' a (O.1, O.2.1, st, O.2.2.2) ∧ (∀ i j, i ≤ O.2.2.2.2 → j ≤ O.2.2.2.2 → st i j = dfF v (O.2.1 i) (O.2.1 j)) ∧ Sm a (a + 49) h h') := by
  refine AM.intro mf_X4_measure (by simp [Value.category]) (Nat.le_of_ble_eq_true rfl) (fun X hl hE hnm hX => ?_)
  subst hl
  subst hE
  show AW X _ _ 0 0 0 [some (.ref a), some (.ref d), none, none] []
  have inner : ∀ (g i j : Nat) (st : Nat → IF) (hh : HP) (_ : ∀ (st : Nat → IF) (hh : HP) (y : Option Value), HOrd hh a (O.1, O.2.1, st, O.2.2.2) → Sm a (a + 49) h hh → (∀ i2 j2, i2 < i + 1 → j2 ≤ O.2.2.2.2 → st i2 j2 = dfF v (O.2.1 i2) (O.2.1 j2)) → AW X n hh 0 0 2 [some (.ref a), some (.ref d), some (.int (nI (i + 1))), y] []), i ≤ O.2.2.2.2 → j ≤ O.2.2.2.2 + 1 → O.2.2.2.2 + 1 - j < g → HOrd hh a (O.1, O.2.1, st, O.2.2.2) → Sm a (a + 49) h hh → (∀ i2 j2, i2 < i → j2 ≤ O.2.2.2.2 → st i2 j2 = dfF v (O.2.1 i2) (O.2.1 j2)) → (∀ j2, j2 < j → st i j2 = dfF v (O.2.1 i) (O.2.1 j2)) → AW X n hh 0 0 18 [some (.ref a), some (.ref d), some (.int (nI i)), some (.int (nI j))] [] := by
    intro g
    induction g with
    | zero => intro i j st hh kk h1 h2 h3; omega
    | succ g ih =>
      intro i j st hh kk h1 h2 h3 H' sm q1 q2
      have e := H'
      obtain ⟨e0, e1, ⟨⟨g2, e2, p2⟩, r2⟩, ⟨⟨g3, e3, p3⟩, r3⟩, e4⟩ := H'
      have Hd' := HDots.sm Hd sm (by omega)
      have d0 := Hd'.1
      refine aw_iload_n hX dX4_measure_18 rfl ?_
      refine aw_aload_n hX dX4_measure_19 rfl ?_
      refine gt_X4_26 hX dX4_measure_20 (by assumption) (by exact rfl) ?_
      refine aw_icmp_gt hX 62 dX4_measure_23 (by decide) (fun c_23 => ?_) (fun c_23 => ?_)
      · have n_23 : O.2.2.2.2 < j := (nI_ltI (a := O.2.2.2.2) (b := j) (by omega) (by omega)).mp c_23
        have n_23 : O.2.2.2.2 < j := (nI_ltI (by omega) (by omega)).mp c_23
        refine aw_iinc hX (nI (i + 1)) dX4_measure_62 rfl (nI_1 i) ?_
        refine aw_goto hX 2 dX4_measure_65 (by decide) ?_
        exact kk st hh _ e sm (fun i2 j2 hi hj => by by_cases e : i2 = i; (subst e; exact q2 j2 (by omega)); (exact q1 i2 j2 (by omega) hj))
      · have n_23 : ¬ O.2.2.2.2 < j := fun q => c_23 ((nI_ltI (a := O.2.2.2.2) (b := j) (by omega) (by omega)).mpr q)
        refine aw_iload_n hX dX4_measure_26 rfl ?_
        refine aw_bipush hX (6) dX4_measure_27 (by decide) ?_
        refine aw_icmp_ge hX 62 dX4_measure_29 (by decide) (fun c_29 => ?_) (fun c_29 => ?_)
        · exact absurd c_29 (nI_ge (a := j) (b := 6) (by omega) (by decide))
        · have r2i := r2 i (by omega)
          have r2j := r2 j (by omega)
          have r3i := r3 i (by omega)
          refine aw_aload_n hX dX4_measure_32 rfl ?_
          refine gt_X4_20 hX dX4_measure_33 (by assumption) (by exact rfl) ?_
          refine aw_iload_n hX dX4_measure_36 rfl ?_
          refine aw_aaldN hX (i) (by assumption) (by decide) rfl (by omega) (by decide) (p3 _ (by omega)) dX4_measure_37 ?_
          refine aw_iload_n hX dX4_measure_38 rfl ?_
          refine aw_aload_n hX dX4_measure_39 rfl ?_
          refine aw_aload_n hX dX4_measure_40 rfl ?_
          refine gt_X4_17 hX dX4_measure_41 (by assumption) (by exact rfl) ?_
          refine aw_iload_n hX dX4_measure_44 rfl ?_
          refine aw_aaldN hX (i) (by assumption) (by decide) rfl (by omega) (by decide) (p2 _ (by omega)) dX4_measure_45 ?_
          refine aw_aload_n hX dX4_measure_46 rfl ?_
          refine gt_X4_17 hX dX4_measure_47 (by assumption) (by exact rfl) ?_
          refine aw_iload_n hX dX4_measure_50 rfl ?_
          refine aw_aaldN hX (j) (by assumption) (by decide) rfl (by omega) (by decide) (p2 _ (by omega)) dX4_measure_51 ?_
          refine aw_callVp hX RX4 rfl (tX0_differing _ _ _ Hd' r2i r2j) rfl mf_X0_differing mi_X0_differing ms_X0_differing kl_X4_74 (by assumption) rfl rfl (by decide) (Nat.le_of_ble_eq_true rfl) dX4_measure_52 (by decide) ?_
          refine aw_iastN hX (j) (by assumption) rfl (by omega) (by first | decide | assumption) dX4_measure_55 ?_
          have e := e.stp (i := i) (by omega) (upd (st i) j (dfF v (O.2.1 i) (O.2.1 j)))
          have sm := sm.set (a := a + 10 + i) (c := cI 6 (upd (st i) j (dfF v (O.2.1 i) (O.2.1 j)))) (by omega) (by omega)
          refine aw_iinc hX (nI (j + 1)) dX4_measure_56 rfl (nI_1 j) ?_
          refine aw_goto hX 18 dX4_measure_59 (by decide) ?_
          exact ih i (j + 1) _ _ kk h1 (by omega) (by omega) e sm (fun i2 j2 hi hj => (congrFun (if_neg (by omega) : va_up st i (upd (st i) j (dfF v (O.2.1 i) (O.2.1 j))) i2 = st i2) j2).trans (q1 i2 j2 hi hj)) (fun j2 hj => (congrFun (if_pos rfl : va_up st i (upd (st i) j (dfF v (O.2.1 i) (O.2.1 j))) i = _) j2).trans (upd_lo2 (f := fun j2 => dfF v (O.2.1 i) (O.2.1 j2)) q2 j2 hj))
  have loop : ∀ (g i : Nat) (st : Nat → IF) (hh : HP) (y : Option Value), i ≤ O.2.2.2.2 + 1 → O.2.2.2.2 + 1 - i < g → HOrd hh a (O.1, O.2.1, st, O.2.2.2) → Sm a (a + 49) h hh → (∀ i2 j2, i2 < i → j2 ≤ O.2.2.2.2 → st i2 j2 = dfF v (O.2.1 i2) (O.2.1 j2)) → AW X n hh 0 0 2 [some (.ref a), some (.ref d), some (.int (nI i)), y] [] := by
    intro g
    induction g with
    | zero => intro i st hh y h1 h2; omega
    | succ g ih =>
      intro i st hh y h1 h2 H' sm q1
      have e0 := H'.1
      refine aw_iload_n hX dX4_measure_2 rfl ?_
      refine aw_aload_n hX dX4_measure_3 rfl ?_
      refine gt_X4_26 hX dX4_measure_4 (by assumption) (by exact rfl) ?_
      refine aw_icmp_gt hX 68 dX4_measure_7 (by decide) (fun c_7 => ?_) (fun c_7 => ?_)
      · have n_7 : O.2.2.2.2 < i := (nI_ltI (a := O.2.2.2.2) (b := i) (by omega) (by omega)).mp c_7
        have n_7 : O.2.2.2.2 < i := (nI_ltI (by omega) (by omega)).mp c_7
        exact aw_vret hX rfl rfl rfl rfl dX4_measure_68 ⟨rfl, st, H', fun i2 j2 hi hj => q1 i2 j2 (by omega) hj, sm⟩
      · have n_7 : ¬ O.2.2.2.2 < i := fun q => c_7 ((nI_ltI (a := O.2.2.2.2) (b := i) (by omega) (by omega)).mpr q)
        refine aw_iload_n hX dX4_measure_10 rfl ?_
        refine aw_bipush hX (6) dX4_measure_11 (by decide) ?_
        refine aw_icmp_ge hX 68 dX4_measure_13 (by decide) (fun c_13 => ?_) (fun c_13 => ?_)
        · exact absurd c_13 (nI_ge (a := i) (b := 6) (by omega) (by decide))
        · refine aw_iconst hX (0) dX4_measure_16 (by decide) ?_
          refine aw_istore_n hX dX4_measure_17 (Nat.le_of_ble_eq_true rfl) ?_
          exact inner (O.2.2.2.2 + 2) i 0 st hh (fun st hh y H' sm q => ih (i + 1) st hh y (by omega) (by omega) H' sm q) (by omega) (by omega) (by omega) H' sm q1 (fun j2 hj => absurd hj (Nat.not_lt_zero _))
  refine aw_iconst hX (0) dX4_measure_0 (by decide) ?_
  refine aw_istore_n hX dX4_measure_1 (Nat.le_of_ble_eq_true rfl) ?_
  exact loop (O.2.2.2.2 + 2) 0 O.2.2.1 h _ (by omega) (by omega) H Sm.rf (fun i2 j2 hi => absurd hi (Nat.not_lt_zero _))
end FIND
