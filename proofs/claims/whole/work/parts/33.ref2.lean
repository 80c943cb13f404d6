/-! the reference: strips, counts of dots -/
theorem dz_xor {a b c : Int32} (h1 : a = 0) (h2 : b = 0) : bcF ((a ^^^ b) &&& c) = 0 := by
  subst h1
  subst h2
  rw [show (0 : Int32) ^^^ 0 = 0 by decide, Int32.zero_and, bcF_0]
section REF2
variable {h : HP} {y : Nat} {s : IF} {ps ty sp om : Nat} {v : PV} {W : Nat}
theorem tX10_stripOf (l : Launch) (E : EV) (n : Nat) (H : HN h y s ps ty sp om) (R : RS s v W) (hS : WS v.2.2.1) {m : Nat} (hm : m < v.2.2.1.2.2.2.2) : MX10_stripOf l E n h [.ref y, .int (nI m)] (PR (.int (nI (TF v.2.2.1 m))) h) := by
  have e := H
  obtain ⟨e0, e1⟩ := H
  obtain ⟨-, -, -, -, -, -, -, r8, -⟩ := id R
  obtain ⟨q1, q2, q3⟩ := hS.2.2 m hm
  obtain ⟨r81, r82⟩ := r8 m hm
  have hm8 : m < 8 := Nat.lt_of_lt_of_le hm hS.1
  refine AM.intro mf_X10_stripOf (by simp [Value.category]) (Nat.le_of_ble_eq_true rfl) (fun X hl hE hnm hX => ?_)
  subst hl
  subst hE
  show AW X _ _ 0 0 0 [some (.ref y), some (.int (nI m)), none, none] []
  have loop : ∀ (z j : Nat), j ≤ v.2.2.1.2.2.2.1 m → v.2.2.1.2.2.2.1 m - j < z → AW X n h 0 0 10 [some (.ref y), some (.int (nI m)), some (.int (nI (v.2.2.1.2.2.2.1 m - 1 + sumN (fun k => wF v.2.2.1.2.1 (v.2.2.1.2.2.1 (m * 12 + k))) j))), some (.int (nI j))] [] := by
    intro z
    induction z with
    | zero => intro j h1 h2; omega
    | succ z ih =>
      intro j h1 h2
      refine aw_iload_n hX dX10_stripOf_10 rfl ?_
      refine aw_aload_n hX dX10_stripOf_11 rfl ?_
      refine aw_iload_n hX dX10_stripOf_12 rfl ?_
      refine aw_callVp hX RX10 rfl (tX10_lengthOf _ _ _ e hm8) rfl mf_X10_lengthOf mi_X10_lengthOf ms_X10_lengthOf kl_X10_54 (by assumption) rfl rfl (by decide) (Nat.le_of_ble_eq_true rfl) dX10_stripOf_13 (by decide) ?_
      rw [r81]
      refine aw_icmp_ge hX 38 dX10_stripOf_16 (by decide) (fun c_16 => ?_) (fun c_16 => ?_)
      · have n_16 : v.2.2.1.2.2.2.1 m ≤ j := (nI_leI (a := v.2.2.1.2.2.2.1 m) (b := j) (by omega) (by omega)).mp c_16
        have hj : j = v.2.2.1.2.2.2.1 m := by omega
        subst hj
        refine aw_iload_n hX dX10_stripOf_38 rfl ?_
        exact aw_iret hX rfl rfl rfl rfl dX10_stripOf_39 (by exact ⟨rfl, rfl⟩)
      · have n_16 : ¬ v.2.2.1.2.2.2.1 m ≤ j := fun q => c_16 ((nI_leI (a := v.2.2.1.2.2.2.1 m) (b := j) (by omega) (by omega)).mpr q)
        refine aw_iload_n hX dX10_stripOf_19 rfl ?_
        refine aw_aload_n hX dX10_stripOf_20 rfl ?_
        refine aw_aload_n hX dX10_stripOf_21 rfl ?_
        refine aw_iload_n hX dX10_stripOf_22 rfl ?_
        refine aw_iload_n hX dX10_stripOf_23 rfl ?_
        refine aw_callVp hX RX10 rfl (tX10_characterOf _ _ _ e hm8 (k := j) (by omega)) rfl mf_X10_characterOf mi_X10_characterOf ms_X10_characterOf kl_X10_58 (by assumption) rfl rfl (by decide) (Nat.le_of_ble_eq_true rfl) dX10_stripOf_24 (by decide) ?_
        rw [r82 j (by omega)]
        refine aw_callVp hX RX10 rfl (tX10_wideOf _ _ _ e R (q3 j (by omega))) rfl mf_X10_wideOf mi_X10_wideOf ms_X10_wideOf kl_X10_62 (by assumption) rfl rfl (by decide) (Nat.le_of_ble_eq_true rfl) dX10_stripOf_27 (by decide) ?_
        refine aw_iadd hX dX10_stripOf_30 ?_
        refine AW.top (y := nI (v.2.2.1.2.2.2.1 m - 1 + sumN (fun k => wF v.2.2.1.2.1 (v.2.2.1.2.2.1 (m * 12 + k))) (j + 1))) (by rw [nI_add, Nat.add_assoc]; rfl) ?_
        refine aw_istore_n hX dX10_stripOf_31 (Nat.le_of_ble_eq_true rfl) ?_
        refine aw_iinc hX (nI (j + 1)) dX10_stripOf_32 rfl (nI_1 j) ?_
        refine aw_goto hX 10 dX10_stripOf_35 (by decide) ?_
        exact ih (j + 1) (by omega) (by omega)
  refine aw_aload_n hX dX10_stripOf_0 rfl ?_
  refine aw_iload_n hX dX10_stripOf_1 rfl ?_
  refine aw_callVp hX RX10 rfl (tX10_lengthOf _ _ _ e hm8) rfl mf_X10_lengthOf mi_X10_lengthOf ms_X10_lengthOf kl_X10_54 (by assumption) rfl rfl (by decide) (Nat.le_of_ble_eq_true rfl) dX10_stripOf_2 (by decide) ?_
  rw [r81]
  refine aw_iconst hX (1) dX10_stripOf_5 (by decide) ?_
  refine aw_isub hX dX10_stripOf_6 ?_
  rw [show nI (v.2.2.1.2.2.2.1 m) - 1 = nI (v.2.2.1.2.2.2.1 m - 1) from pk_sub (b := 1) q1]
  refine aw_istore_n hX dX10_stripOf_7 (Nat.le_of_ble_eq_true rfl) ?_
  refine aw_iconst hX (0) dX10_stripOf_8 (by decide) ?_
  refine aw_istore_n hX dX10_stripOf_9 (Nat.le_of_ble_eq_true rfl) ?_
  exact loop (v.2.2.1.2.2.2.1 m + 1) 0 (by omega) (by omega)
theorem tX10_dueMany (l : Launch) (E : EV) (n : Nat) (H : HN h y s ps ty sp om) (R : RS s v W) (hZ : ZW v W) (hB : BO v) : MX10_dueMany l E n h [.ref y] (PR (.int (dueN v)) h) := by
  have e := H
  obtain ⟨e0, e1⟩ := H
  obtain ⟨⟨r1, r0, hW6, hW⟩, -, -, -, r5, -⟩ := id R
  refine AM.intro mf_X10_dueMany (by simp [Value.category]) (Nat.le_of_ble_eq_true rfl) (fun X hl hE hnm hX => ?_)
  subst hl
  subst hE
  show AW X _ _ 0 0 0 [some (.ref y), none, none] []
  have loop : ∀ (z j : Nat), j ≤ W → W - j < z → AW X n h 0 0 4 [some (.ref y), some (.int (sumI (fun c => bcF ((v.1.2.2.1 c ^^^ v.1.2.1 c) &&& (v.1.2.2.2.2.1 c ^^^ (-1)))) j)), some (.int (nI j))] [] := by
    intro z
    induction z with
    | zero => intro j h1 h2; omega
    | succ z ih =>
      intro j h1 h2
      refine aw_iload_n hX dX10_dueMany_4 rfl ?_
      refine aw_aload_n hX dX10_dueMany_5 rfl ?_
      refine gt_X10_7 hX dX10_dueMany_6 (by assumption) (by exact rfl) ?_
      refine aw_iconst hX (0) dX10_dueMany_9 (by decide) ?_
      refine aw_ialdN hX (0) (by assumption) rfl (by decide) (by first | decide | assumption) dX10_dueMany_10 ?_
      rw [r1]
      refine aw_icmp_ge hX 31 dX10_dueMany_11 (by decide) (fun c_11 => ?_) (fun c_11 => ?_)
      · have n_11 : W ≤ j := (nI_leI (a := W) (b := j) (by omega) (by omega)).mp c_11
        have hj : j = W := by omega
        subst hj
        refine aw_iload_n hX dX10_dueMany_31 rfl ?_
        exact aw_iret hX rfl rfl rfl rfl dX10_dueMany_32 (by refine ⟨congrArg (fun z => some (Value.int z)) (sumI_40 hW (fun c h1 h2 => ?_)), rfl⟩; obtain ⟨z1, z2, z3, z4⟩ := hZ c h1 h2; exact dz_xor z2 z1)
      · have n_11 : ¬ W ≤ j := fun q => c_11 ((nI_leI (a := W) (b := j) (by omega) (by omega)).mpr q)
        have hj : j < 40 := by omega
        obtain ⟨b1, b2, b3, b4⟩ := hB j hj
        obtain ⟨s1, s2, s3, s4⟩ := r5 j hj
        refine aw_iload_n hX dX10_dueMany_14 rfl ?_
        refine aw_aload_n hX dX10_dueMany_15 rfl ?_
        refine aw_iload_n hX dX10_dueMany_16 rfl ?_
        refine aw_callVp hX RX10 rfl (tX10_dueOf _ _ _ e hj) rfl mf_X10_dueOf mi_X10_dueOf ms_X10_dueOf kl_X10_86 (by assumption) rfl rfl (by decide) (Nat.le_of_ble_eq_true rfl) dX10_dueMany_17 (by decide) ?_
        rw [s1, s2, s4, i_xor_comm (v.1.2.1 j)]
        refine aw_callSp hX RX10 rfl (tX10_bits7 _ _ _ _ ((b2.xor b1).and _)) rfl mf_X10_bits mt_X10_bits kl_X10_72 rfl (by decide) (Nat.le_of_ble_eq_true rfl) dX10_dueMany_20 (by decide) ?_
        refine aw_iadd hX dX10_dueMany_23 ?_
        refine aw_istore_n hX dX10_dueMany_24 (Nat.le_of_ble_eq_true rfl) ?_
        refine aw_iinc hX (nI (j + 1)) dX10_dueMany_25 rfl (nI_1 j) ?_
        refine aw_goto hX 4 dX10_dueMany_28 (by decide) ?_
        exact ih (j + 1) (by omega) (by omega)
  refine aw_iconst hX (0) dX10_dueMany_0 (by decide) ?_
  refine aw_istore_n hX dX10_dueMany_1 (Nat.le_of_ble_eq_true rfl) ?_
  refine aw_iconst hX (0) dX10_dueMany_2 (by decide) ?_
  refine aw_istore_n hX dX10_dueMany_3 (Nat.le_of_ble_eq_true rfl) ?_
  exact loop (W + 1) 0 (by omega) (by omega)
theorem tX10_offMany (l : Launch) (E : EV) (n : Nat) (H : HN h y s ps ty sp om) (R : RS s v W) (hZ : ZW v W) (hB : BO v) : MX10_offMany l E n h [.ref y] (PR (.int (sumI (fun c => bcF (v.1.2.2.1 c ^^^ v.1.2.1 c)) 40)) h) := by
  have e := H
  obtain ⟨e0, e1⟩ := H
  obtain ⟨⟨r1, r0, hW6, hW⟩, -, -, -, r5, -⟩ := id R
  refine AM.intro mf_X10_offMany (by simp [Value.category]) (Nat.le_of_ble_eq_true rfl) (fun X hl hE hnm hX => ?_)
  subst hl
  subst hE
  show AW X _ _ 0 0 0 [some (.ref y), none, none] []
  have loop : ∀ (z j : Nat), j ≤ W → W - j < z → AW X n h 0 0 4 [some (.ref y), some (.int (sumI (fun c => bcF (v.1.2.2.1 c ^^^ v.1.2.1 c)) j)), some (.int (nI j))] [] := by
    intro z
    induction z with
    | zero => intro j h1 h2; omega
    | succ z ih =>
      intro j h1 h2
      refine aw_iload_n hX dX10_offMany_4 rfl ?_
      refine aw_aload_n hX dX10_offMany_5 rfl ?_
      refine gt_X10_7 hX dX10_offMany_6 (by assumption) (by exact rfl) ?_
      refine aw_iconst hX (0) dX10_offMany_9 (by decide) ?_
      refine aw_ialdN hX (0) (by assumption) rfl (by decide) (by first | decide | assumption) dX10_offMany_10 ?_
      rw [r1]
      refine aw_icmp_ge hX 45 dX10_offMany_11 (by decide) (fun c_11 => ?_) (fun c_11 => ?_)
      · have n_11 : W ≤ j := (nI_leI (a := W) (b := j) (by omega) (by omega)).mp c_11
        have hj : j = W := by omega
        subst hj
        refine aw_iload_n hX dX10_offMany_45 rfl ?_
        exact aw_iret hX rfl rfl rfl rfl dX10_offMany_46 (by refine ⟨congrArg (fun z => some (Value.int z)) (sumI_40 hW (fun c h1 h2 => ?_)), rfl⟩; obtain ⟨z1, z2, z3, z4⟩ := hZ c h1 h2; show bcF (v.1.2.2.1 c ^^^ v.1.2.1 c) = 0; rw [z1, z2]; exact bcF_0)
      · have n_11 : ¬ W ≤ j := fun q => c_11 ((nI_leI (a := W) (b := j) (by omega) (by omega)).mpr q)
        have hj : j < 40 := by omega
        obtain ⟨b1, b2, b3, b4⟩ := hB j hj
        obtain ⟨s1, s2, s3, s4⟩ := r5 j hj
        refine aw_iload_n hX dX10_offMany_14 rfl ?_
        refine aw_aload_n hX dX10_offMany_15 rfl ?_
        refine gt_X10_7 hX dX10_offMany_16 (by assumption) (by exact rfl) ?_
        refine aw_bipush hX (9) dX10_offMany_19 (by decide) ?_
        refine aw_iload_n hX dX10_offMany_21 rfl ?_
        refine aw_iadd hX dX10_offMany_22 ?_
        refine aw_ialdN hX (9 + j) (by assumption) (nI_add 9 j) (by omega) (by first | decide | assumption) dX10_offMany_23 ?_
        refine aw_aload_n hX dX10_offMany_24 rfl ?_
        refine gt_X10_7 hX dX10_offMany_25 (by assumption) (by exact rfl) ?_
        refine aw_bipush hX (49) dX10_offMany_28 (by decide) ?_
        refine aw_iload_n hX dX10_offMany_30 rfl ?_
        refine aw_iadd hX dX10_offMany_31 ?_
        refine aw_ialdN hX (49 + j) (by assumption) (nI_add 49 j) (by omega) (by first | decide | assumption) dX10_offMany_32 ?_
        refine aw_ixor hX dX10_offMany_33 ?_
        rw [s1, s2, i_xor_comm (v.1.2.1 j)]
        refine aw_callSp hX RX10 rfl (tX10_bits7 _ _ _ _ (b2.xor b1)) rfl mf_X10_bits mt_X10_bits kl_X10_72 rfl (by decide) (Nat.le_of_ble_eq_true rfl) dX10_offMany_34 (by decide) ?_
        refine aw_iadd hX dX10_offMany_37 ?_
        refine aw_istore_n hX dX10_offMany_38 (Nat.le_of_ble_eq_true rfl) ?_
        refine aw_iinc hX (nI (j + 1)) dX10_offMany_39 rfl (nI_1 j) ?_
        refine aw_goto hX 4 dX10_offMany_42 (by decide) ?_
        exact ih (j + 1) (by omega) (by omega)
  refine aw_iconst hX (0) dX10_offMany_0 (by decide) ?_
  refine aw_istore_n hX dX10_offMany_1 (Nat.le_of_ble_eq_true rfl) ?_
  refine aw_iconst hX (0) dX10_offMany_2 (by decide) ?_
  refine aw_istore_n hX dX10_offMany_3 (Nat.le_of_ble_eq_true rfl) ?_
  exact loop (W + 1) 0 (by omega) (by omega)
theorem tX10_bitsOf (l : Launch) (E : EV) (n : Nat) (H : HN h y s ps ty sp om) (R : RS s v W) {b : Nat} (hb : b ≤ 600) {f : IF} (hf : ∀ c, c < 40 → s (b + c) = f c ∧ B7 (f c)) (hZ : ∀ c, W ≤ c → c < 40 → f c = 0) : MX10_bitsOf l E n h [.ref y, .int (nI b)] (PR (.int (sumI (fun c => bcF (f c)) 40)) h) := by
  have e := H
  obtain ⟨e0, e1⟩ := H
  obtain ⟨⟨r1, r0, hW6, hW⟩, -⟩ := id R
  refine AM.intro mf_X10_bitsOf (by simp [Value.category]) (Nat.le_of_ble_eq_true rfl) (fun X hl hE hnm hX => ?_)
  subst hl
  subst hE
  show AW X _ _ 0 0 0 [some (.ref y), some (.int (nI b)), none, none] []
  have loop : ∀ (z j : Nat), j ≤ W → W - j < z → AW X n h 0 0 4 [some (.ref y), some (.int (nI b)), some (.int (sumI (fun c => bcF (f c)) j)), some (.int (nI j))] [] := by
    intro z
    induction z with
    | zero => intro j h1 h2; omega
    | succ z ih =>
      intro j h1 h2
      refine aw_iload_n hX dX10_bitsOf_4 rfl ?_
      refine aw_aload_n hX dX10_bitsOf_5 rfl ?_
      refine gt_X10_7 hX dX10_bitsOf_6 (by assumption) (by exact rfl) ?_
      refine aw_iconst hX (0) dX10_bitsOf_9 (by decide) ?_
      refine aw_ialdN hX (0) (by assumption) rfl (by decide) (by first | decide | assumption) dX10_bitsOf_10 ?_
      rw [r1]
      refine aw_icmp_ge hX 34 dX10_bitsOf_11 (by decide) (fun c_11 => ?_) (fun c_11 => ?_)
      · have n_11 : W ≤ j := (nI_leI (a := W) (b := j) (by omega) (by omega)).mp c_11
        have hj : j = W := by omega
        subst hj
        refine aw_iload_n hX dX10_bitsOf_34 rfl ?_
        exact aw_iret hX rfl rfl rfl rfl dX10_bitsOf_35 (by refine ⟨congrArg (fun z => some (Value.int z)) (sumI_40 hW (fun c h1 h2 => ?_)), rfl⟩; show bcF (f c) = 0; rw [hZ c h1 h2]; exact bcF_0)
      · have n_11 : ¬ W ≤ j := fun q => c_11 ((nI_leI (a := W) (b := j) (by omega) (by omega)).mpr q)
        have hj : j < 40 := by omega
        obtain ⟨s1, b1⟩ := hf j hj
        refine aw_iload_n hX dX10_bitsOf_14 rfl ?_
        refine aw_aload_n hX dX10_bitsOf_15 rfl ?_
        refine gt_X10_7 hX dX10_bitsOf_16 (by assumption) (by exact rfl) ?_
        refine aw_iload_n hX dX10_bitsOf_19 rfl ?_
        refine aw_iload_n hX dX10_bitsOf_20 rfl ?_
        refine aw_iadd hX dX10_bitsOf_21 ?_
        refine aw_ialdN hX (b + j) (by assumption) (nI_add b j) (by omega) (by first | decide | assumption) dX10_bitsOf_22 ?_
        rw [s1]
        refine aw_callSp hX RX10 rfl (tX10_bits7 _ _ _ _ b1) rfl mf_X10_bits mt_X10_bits kl_X10_72 rfl (by decide) (Nat.le_of_ble_eq_true rfl) dX10_bitsOf_23 (by decide) ?_
        refine aw_iadd hX dX10_bitsOf_26 ?_
        refine aw_istore_n hX dX10_bitsOf_27 (Nat.le_of_ble_eq_true rfl) ?_
        refine aw_iinc hX (nI (j + 1)) dX10_bitsOf_28 rfl (nI_1 j) ?_
        refine aw_goto hX 4 dX10_bitsOf_31 (by decide) ?_
        exact ih (j + 1) (by omega) (by omega)
  refine aw_iconst hX (0) dX10_bitsOf_0 (by decide) ?_
  refine aw_istore_n hX dX10_bitsOf_1 (Nat.le_of_ble_eq_true rfl) ?_
  refine aw_iconst hX (0) dX10_bitsOf_2 (by decide) ?_
  refine aw_istore_n hX dX10_bitsOf_3 (Nat.le_of_ble_eq_true rfl) ?_
  exact loop (W + 1) 0 (by omega) (by omega)
/-- the dots that differ in two rows -/
theorem tX10_differs (l : Launch) (E : EV) (n : Nat) (H : HN h y s ps ty sp om) (R : RS s v W) (hB : BO v) {a b t N : Nat} {f q p : IF} (ha : h a = some (cI N f)) (hN : b + 40 ≤ N) (hN2 : N < 2 ^ 31) (hq : ∀ c, c < 40 → f (b + c) = q c ∧ B7 (q c)) (ht : h t = some (cI 40 p)) (hp : ∀ c, c < 40 → B7 (p c)) (hZ : ∀ c, W ≤ c → c < 40 → q c = 0 ∧ p c = 0) (k : Bool) : MX10_differs l E n h [.ref y, .ref a, .int (nI b), .ref t, .int (if k then 1 else 0)] (PR (.int (sumI (fun c => bcF ((q c ^^^ p c) &&& (if k then v.1.2.2.2.2.1 c else v.1.2.2.2.2.1 c ^^^ (-1)))) 40)) h) := by
  have e := H
  obtain ⟨e0, e1⟩ := H
  obtain ⟨⟨r1, r0, hW6, hW⟩, -, -, -, r5, -⟩ := id R
  refine AM.intro mf_X10_differs (by simp [Value.category]) (Nat.le_of_ble_eq_true rfl) (fun X hl hE hnm hX => ?_)
  subst hl
  subst hE
  show AW X _ _ 0 0 0 [some (.ref y), some (.ref a), some (.int (nI b)), some (.ref t), some (.int (if k then 1 else 0)), none, none, none] []
  have loop : ∀ (z j : Nat) (x : Option Value), j ≤ W → W - j < z → AW X n h 0 0 6 [some (.ref y), some (.ref a), some (.int (nI b)), some (.ref t), some (.int (if k then 1 else 0)), some (.int (sumI (fun c => bcF ((q c ^^^ p c) &&& (if k then v.1.2.2.2.2.1 c else v.1.2.2.2.2.1 c ^^^ (-1)))) j)), some (.int (nI j)), x] [] := by
    intro z
    induction z with
    | zero => intro j x h1 h2; omega
    | succ z ih =>
      intro j x h1 h2
      refine aw_iload hX dX10_differs_6 rfl ?_
      refine aw_aload_n hX dX10_differs_8 rfl ?_
      refine gt_X10_7 hX dX10_differs_9 (by assumption) (by exact rfl) ?_
      refine aw_iconst hX (0) dX10_differs_12 (by decide) ?_
      refine aw_ialdN hX (0) (by assumption) rfl (by decide) (by first | decide | assumption) dX10_differs_13 ?_
      rw [r1]
      refine aw_icmp_ge hX 82 dX10_differs_14 (by decide) (fun c_14 => ?_) (fun c_14 => ?_)
      · have n_14 : W ≤ j := (nI_leI (a := W) (b := j) (by omega) (by omega)).mp c_14
        have hj : j = W := by omega
        subst hj
        refine aw_iload hX dX10_differs_82 rfl ?_
        exact aw_iret hX rfl rfl rfl rfl dX10_differs_84 (by refine ⟨congrArg (fun z => some (Value.int z)) (sumI_40 hW (fun c h1 h2 => ?_)), rfl⟩; obtain ⟨z1, z2⟩ := hZ c h1 h2; exact dz_xor z1 z2)
      · have n_14 : ¬ W ≤ j := fun q => c_14 ((nI_leI (a := W) (b := j) (by omega) (by omega)).mpr q)
        have hj : j < 40 := by omega
        obtain ⟨s1, b1⟩ := hq j hj
        have b2 := hp j hj
        obtain ⟨-, -, -, s4⟩ := r5 j hj
        refine aw_aload_n hX dX10_differs_17 rfl ?_
        refine aw_iload_n hX dX10_differs_18 rfl ?_
        refine aw_iload hX dX10_differs_19 rfl ?_
        refine aw_iadd hX dX10_differs_21 ?_
        refine aw_ialdN hX (b + j) (by assumption) (nI_add b j) (by omega) (by first | decide | assumption) dX10_differs_22 ?_
        refine aw_aload_n hX dX10_differs_23 rfl ?_
        refine aw_iload hX dX10_differs_24 rfl ?_
        refine aw_ialdN hX (j) (by assumption) rfl hj (by first | decide | assumption) dX10_differs_26 ?_
        refine aw_ixor hX dX10_differs_27 ?_
        rw [s1]
        refine aw_istore hX dX10_differs_28 (Nat.le_of_ble_eq_true rfl) ?_
        refine aw_iload hX dX10_differs_30 rfl ?_
        refine aw_iload hX dX10_differs_32 rfl ?_
        refine aw_if_eq hX 54 dX10_differs_34 (by decide) (fun c_34 => ?_) (fun c_34 => ?_)
        · have hk : k = false := by cases k; rfl; exact absurd c_34 (by decide)
          refine aw_iload hX dX10_differs_54 rfl ?_
          refine aw_aload_n hX dX10_differs_56 rfl ?_
          refine gt_X10_7 hX dX10_differs_57 (by assumption) (by exact rfl) ?_
          refine aw_sipush hX (129) dX10_differs_60 (by decide) ?_
          refine aw_iload hX dX10_differs_63 rfl ?_
          refine aw_iadd hX dX10_differs_65 ?_
          refine aw_ialdN hX (129 + j) (by assumption) (nI_add 129 j) (by omega) (by first | decide | assumption) dX10_differs_66 ?_
          refine aw_iconst hX (-1) dX10_differs_67 (by decide) ?_
          refine aw_ixor hX dX10_differs_68 ?_
          refine aw_iand hX dX10_differs_69 ?_
          have hx : (q j ^^^ p j) &&& (s (129 + j) ^^^ (-1)) = (q j ^^^ p j) &&& (if k then v.1.2.2.2.2.1 j else v.1.2.2.2.2.1 j ^^^ (-1)) := by rw [s4, hk]; rfl
          rw [hx]
          refine aw_callSp hX RX10 rfl (tX10_bits7 _ _ _ _ ((b1.xor b2).and _)) rfl mf_X10_bits mt_X10_bits kl_X10_72 rfl (by decide) (Nat.le_of_ble_eq_true rfl) dX10_differs_70 (by decide) ?_
          refine aw_iadd hX dX10_differs_73 ?_
          refine aw_istore hX dX10_differs_74 (Nat.le_of_ble_eq_true rfl) ?_
          refine aw_iinc hX (nI (j + 1)) dX10_differs_76 rfl (nI_1 j) ?_
          refine aw_goto hX 6 dX10_differs_79 (by decide) ?_
          exact ih (j + 1) _ (by omega) (by omega)
        · have hk : k = true := by cases k; exact absurd rfl c_34; rfl
          refine aw_iload hX dX10_differs_37 rfl ?_
          refine aw_aload_n hX dX10_differs_39 rfl ?_
          refine gt_X10_7 hX dX10_differs_40 (by assumption) (by exact rfl) ?_
          refine aw_sipush hX (129) dX10_differs_43 (by decide) ?_
          refine aw_iload hX dX10_differs_46 rfl ?_
          refine aw_iadd hX dX10_differs_48 ?_
          refine aw_ialdN hX (129 + j) (by assumption) (nI_add 129 j) (by omega) (by first | decide | assumption) dX10_differs_49 ?_
          refine aw_iand hX dX10_differs_50 ?_
          have hx : (q j ^^^ p j) &&& s (129 + j) = (q j ^^^ p j) &&& (if k then v.1.2.2.2.2.1 j else v.1.2.2.2.2.1 j ^^^ (-1)) := by rw [s4, hk]; rfl
          rw [hx]
          refine aw_goto hX 70 dX10_differs_51 (by decide) ?_
          refine aw_callSp hX RX10 rfl (tX10_bits7 _ _ _ _ ((b1.xor b2).and _)) rfl mf_X10_bits mt_X10_bits kl_X10_72 rfl (by decide) (Nat.le_of_ble_eq_true rfl) dX10_differs_70 (by decide) ?_
          refine aw_iadd hX dX10_differs_73 ?_
          refine aw_istore hX dX10_differs_74 (Nat.le_of_ble_eq_true rfl) ?_
          refine aw_iinc hX (nI (j + 1)) dX10_differs_76 rfl (nI_1 j) ?_
          refine aw_goto hX 6 dX10_differs_79 (by decide) ?_
          exact ih (j + 1) _ (by omega) (by omega)
  refine aw_iconst hX (0) dX10_differs_0 (by decide) ?_
  refine aw_istore hX dX10_differs_1 (Nat.le_of_ble_eq_true rfl) ?_
  refine aw_iconst hX (0) dX10_differs_3 (by decide) ?_
  refine aw_istore hX dX10_differs_4 (Nat.le_of_ble_eq_true rfl) ?_
  exact loop (W + 1) 0 _ (by omega) (by omega)
theorem tX10_isShow (l : Launch) (E : EV) (n : Nat) (H : HN h y s ps ty sp om) (m w : Int32) : MX10_isShow l E n h [.ref y, .int m, .int w] (PR (.int (bI ((0 ≤ m ∧ m < s 4) ∧ 0 ≤ w ∧ w ≤ 1))) h) := by
  have e := H
  obtain ⟨e0, e1⟩ := H
  refine AM.intro mf_X10_isShow (by simp [Value.category]) (Nat.le_of_ble_eq_true rfl) (fun X hl hE hnm hX => ?_)
  subst hl
  subst hE
  show AW X _ _ 0 0 0 [some (.ref y), some (.int m), some (.int w)] []
  refine aw_aload_n hX dX10_isShow_0 rfl ?_
  refine aw_iload_n hX dX10_isShow_1 rfl ?_
  refine aw_callVp hX RX10 rfl (tX10_isMessage _ _ _ e m) rfl mf_X10_isMessage mi_X10_isMessage ms_X10_isMessage kl_X10_110 (by assumption) rfl rfl (by decide) (Nat.le_of_ble_eq_true rfl) dX10_isShow_2 (by decide) ?_
  refine aw_if_eq hX 21 dX10_isShow_5 (by decide) (fun c_5 => ?_) (fun c_5 => ?_)
  · refine aw_iconst hX (0) dX10_isShow_21 (by decide) ?_
    exact aw_zret hX rfl (Or.inl rfl) rfl rfl rfl dX10_isShow_22 (prF (fun q => bI_eq0.mp c_5 q.1))
  · refine aw_iload_n hX dX10_isShow_8 rfl ?_
    refine aw_iconst hX (0) dX10_isShow_9 (by decide) ?_
    refine aw_iconst hX (1) dX10_isShow_10 (by decide) ?_
    refine aw_callSp hX RX10 rfl (tX10_in _ _ _ _ w 0 1) rfl mf_X10_in mt_X10_in kl_X10_96 rfl (by decide) (Nat.le_of_ble_eq_true rfl) dX10_isShow_11 (by decide) ?_
    refine aw_if_eq hX 21 dX10_isShow_14 (by decide) (fun c_14 => ?_) (fun c_14 => ?_)
    · refine aw_iconst hX (0) dX10_isShow_21 (by decide) ?_
      exact aw_zret hX rfl (Or.inl rfl) rfl rfl rfl dX10_isShow_22 (prF (fun q => bI_eq0.mp c_14 q.2))
    · refine aw_iconst hX (1) dX10_isShow_17 (by decide) ?_
      refine aw_goto hX 22 dX10_isShow_18 (by decide) ?_
      exact aw_zret hX rfl (by first | exact Or.inl rfl | exact Or.inr rfl | assumption) rfl rfl rfl dX10_isShow_22 (by exact prT ⟨Decidable.not_not.mp (fun q => c_5 (bI_eq0.mpr q)), Decidable.not_not.mp (fun q => c_14 (bI_eq0.mpr q))⟩)
theorem tX10_isDot (l : Launch) (E : EV) (n : Nat) (H : HN h y s ps ty sp om) (c r : Int32) : MX10_isDot l E n h [.ref y, .int c, .int r] (PR (.int (bI ((0 ≤ c ∧ c < s 0) ∧ 0 ≤ r ∧ r ≤ 6))) h) := by
  have e := H
  obtain ⟨e0, e1⟩ := H
  refine AM.intro mf_X10_isDot (by simp [Value.category]) (Nat.le_of_ble_eq_true rfl) (fun X hl hE hnm hX => ?_)
  subst hl
  subst hE
  show AW X _ _ 0 0 0 [some (.ref y), some (.int c), some (.int r)] []
  refine aw_aload_n hX dX10_isDot_0 rfl ?_
  refine aw_iload_n hX dX10_isDot_1 rfl ?_
  refine aw_callVp hX RX10 rfl (tX10_isColumn _ _ _ e c) rfl mf_X10_isColumn mi_X10_isColumn ms_X10_isColumn kl_X10_68 (by assumption) rfl rfl (by decide) (Nat.le_of_ble_eq_true rfl) dX10_isDot_2 (by decide) ?_
  refine aw_if_eq hX 22 dX10_isDot_5 (by decide) (fun c_5 => ?_) (fun c_5 => ?_)
  · refine aw_iconst hX (0) dX10_isDot_22 (by decide) ?_
    exact aw_zret hX rfl (Or.inl rfl) rfl rfl rfl dX10_isDot_23 (prF (fun q => bI_eq0.mp c_5 q.1))
  · refine aw_iload_n hX dX10_isDot_8 rfl ?_
    refine aw_iconst hX (0) dX10_isDot_9 (by decide) ?_
    refine aw_bipush hX (6) dX10_isDot_10 (by decide) ?_
    refine aw_callSp hX RX10 rfl (tX10_in _ _ _ _ r 0 6) rfl mf_X10_in mt_X10_in kl_X10_96 rfl (by decide) (Nat.le_of_ble_eq_true rfl) dX10_isDot_12 (by decide) ?_
    refine aw_if_eq hX 22 dX10_isDot_15 (by decide) (fun c_15 => ?_) (fun c_15 => ?_)
    · refine aw_iconst hX (0) dX10_isDot_22 (by decide) ?_
      exact aw_zret hX rfl (Or.inl rfl) rfl rfl rfl dX10_isDot_23 (prF (fun q => bI_eq0.mp c_15 q.2))
    · refine aw_iconst hX (1) dX10_isDot_18 (by decide) ?_
      refine aw_goto hX 23 dX10_isDot_19 (by decide) ?_
      exact aw_zret hX rfl (by first | exact Or.inl rfl | exact Or.inr rfl | assumption) rfl rfl rfl dX10_isDot_23 (by exact prT ⟨Decidable.not_not.mp (fun q => c_5 (bI_eq0.mpr q)), Decidable.not_not.mp (fun q => c_15 (bI_eq0.mpr q))⟩)
end REF2
