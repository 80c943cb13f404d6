/-! the reference over its one row of numbers -/
abbrev oM (y ps ty sp om : Nat) : AC := cO 10 [.ref (y + 1), .ref (y + 2), .ref (y + 3), .ref (y + 4), .int (nI ps), .ref (y + 5), .int (nI ty), .ref (y + 6), .ref (y + 7), .ref (y + 8), .int (nI sp), .ref (y + 9), .ref (y + 10), .int (nI om), .ref (y + 11), .ref (y + 12)]
/-- what the row holds of a state -/
def RS (s : IF) (v : PV) (W : Nat) : Prop :=
  (s 0 = nI W ∧ v.1.1 = nI W ∧ 6 ≤ W ∧ W ≤ 40) ∧ (∀ k, k < 3 → s (1 + k) = v.2.2.2 k) ∧ s 4 = nI v.2.2.1.2.2.2.2 ∧
  (s 5 = v.2.1.1 ∧ s 6 = v.2.1.2.1 ∧ s 7 = v.2.1.2.2.1 ∧ s 8 = nI v.2.1.2.2.2.1) ∧
  (∀ c, c < 40 → s (9 + c) = v.1.2.1 c ∧ s (49 + c) = v.1.2.2.1 c ∧ s (89 + c) = v.1.2.2.2.1 c ∧ s (129 + c) = v.1.2.2.2.2.1 c) ∧
  (∀ c r, c < 40 → r < 7 → s (169 + 7 * c + r) = v.1.2.2.2.2.2 (c * 7 + r)) ∧
  (∀ l, l < 26 → s (449 + 6 * l) = nI (v.2.2.1.2.1 l) ∧ ∀ i, i < v.2.2.1.2.1 l → s (449 + 6 * l + 1 + i) = v.2.2.1.1 (l * 5 + i)) ∧
  (∀ m, m < v.2.2.1.2.2.2.2 → s (605 + 13 * m) = nI (v.2.2.1.2.2.2.1 m) ∧ ∀ i, i < v.2.2.1.2.2.2.1 m → s (605 + 13 * m + 1 + i) = nI (v.2.2.1.2.2.1 (m * 12 + i))) ∧
  ∀ k, k < 20 → k < v.2.1.2.2.2.1 → s (709 + k) = v.2.1.2.2.2.2 ((v.2.1.2.2.2.1 - 1 - k) % 20)
/-- behind the width all is dark -/
def ZW (v : PV) (W : Nat) : Prop := ∀ c, W ≤ c → c < 40 → v.1.2.1 c = 0 ∧ v.1.2.2.1 c = 0 ∧ v.1.2.2.2.1 c = 0 ∧ v.1.2.2.2.2.1 c = 0
/-- the reference -/
def HN (h : HP) (y : Nat) (s : IF) (ps ty sp om : Nat) : Prop := h y = some (oM y ps ty sp om) ∧ h (y + 1) = some (cI 729 s)
theorem ix_m (m : Nat) : (605 : Int32) + 13 * nI m = nI (605 + 13 * m) := by
  rw [show (13 : Int32) = nI 13 from rfl, show (605 : Int32) = nI 605 from rfl, pk_mul, nI_add]
theorem ix_l (m : Nat) : (449 : Int32) + 6 * nI m = nI (449 + 6 * m) := by
  rw [show (6 : Int32) = nI 6 from rfl, show (449 : Int32) = nI 449 from rfl, pk_mul, nI_add]
theorem ix_f (c r : Nat) : (169 : Int32) + 7 * nI c + nI r = nI (169 + 7 * c + r) := by
  rw [show (7 : Int32) = nI 7 from rfl, show (169 : Int32) = nI 169 from rfl, pk_mul, nI_add, nI_add]
theorem sumI_W {f : Nat → Int32} {W : Nat} : ∀ k, (∀ c, W ≤ c → c < W + k → f c = 0) → sumI f (W + k) = sumI f W
  | 0, _ => rfl
  | k + 1, h => by
    show sumI f (W + k) + f (W + k) = sumI f W
    rw [h (W + k) (by omega) (by omega), sumI_W k (fun c h1 h2 => h c h1 (by omega)), Int32.add_zero]
theorem sumI_40 {f : Nat → Int32} {W : Nat} (hW : W ≤ 40) (h : ∀ c, W ≤ c → c < 40 → f c = 0) : sumI f W = sumI f 40 := by
  have e := sumI_W (f := f) (W := W) (40 - W) (fun c h1 h2 => h c h1 (by omega))
  rw [show W + (40 - W) = 40 by omega] at e
  exact e.symm
theorem sumI_ext {f g : Nat → Int32} : ∀ n, (∀ c, c < n → f c = g c) → sumI f n = sumI g n
  | 0, _ => rfl
  | n + 1, h => by
    show sumI f n + f n = sumI g n + g n
    rw [sumI_ext n (fun c hc => h c (by omega)), h n (by omega)]
theorem i_xor_comm (a b : Int32) : a ^^^ b = b ^^^ a := by
  apply Int32.toBitVec_inj.mp
  rw [Int32.toBitVec_xor, Int32.toBitVec_xor, BitVec.xor_comm]
theorem sh_bit : ∀ k, k < 256 → ∀ i, i < 8 → (nI k >>> (nI i &&& 31)) &&& 1 = nI (k / 2 ^ i % 2) := by decide +kernel
theorem cnt_sum (k : Nat) : sumN (fun i => k / 2 ^ i % 2) 8 = cntN k := by
  unfold cntN
  show 0 + k / 1 % 2 + k / 2 % 2 + k / 4 % 2 + k / 8 % 2 + k / 16 % 2 + k / 32 % 2 + k / 64 % 2 + k / 128 % 2 = _
  omega
theorem bcF_0 : bcF 0 = 0 := bcF_cnt 0 (by decide)
section REF1
variable {h : HP} {y : Nat} {s : IF} {ps ty sp om : Nat} {v : PV} {W : Nat}
theorem tX10_in (l : Launch) (E : EV) (n : Nat) (h : HP) (a b c : Int32) : MX10_in l E n h [.int a, .int b, .int c] (PR (.int (bI (b ≤ a ∧ a ≤ c))) h) := by
  refine AM.intro mf_X10_in (by simp [Value.category]) (Nat.le_of_ble_eq_true rfl) (fun X hl hE hnm hX => ?_)
  subst hl
  subst hE
  show AW X _ _ 0 0 0 [some (.int a), some (.int b), some (.int c)] []
  refine aw_iload_n hX dX10_in_0 rfl ?_
  refine aw_iload_n hX dX10_in_1 rfl ?_
  refine aw_icmp_lt hX 14 dX10_in_2 (by decide) (fun c_2 => ?_) (fun c_2 => ?_)
  · refine aw_iconst hX (0) dX10_in_14 (by decide) ?_
    exact aw_zret hX rfl (by first | exact Or.inl rfl | exact Or.inr rfl | assumption) rfl rfl rfl dX10_in_15 (by first | exact prT ⟨Int32.not_lt.mp c_2, Int32.not_lt.mp c_7⟩ | exact prF (fun q => Int32.not_le.mpr c_2 q.1) | exact prF (fun q => Int32.not_le.mpr c_7 q.2))
  · refine aw_iload_n hX dX10_in_5 rfl ?_
    refine aw_iload_n hX dX10_in_6 rfl ?_
    refine aw_icmp_gt hX 14 dX10_in_7 (by decide) (fun c_7 => ?_) (fun c_7 => ?_)
    · refine aw_iconst hX (0) dX10_in_14 (by decide) ?_
      exact aw_zret hX rfl (by first | exact Or.inl rfl | exact Or.inr rfl | assumption) rfl rfl rfl dX10_in_15 (by first | exact prT ⟨Int32.not_lt.mp c_2, Int32.not_lt.mp c_7⟩ | exact prF (fun q => Int32.not_le.mpr c_2 q.1) | exact prF (fun q => Int32.not_le.mpr c_7 q.2))
    · refine aw_iconst hX (1) dX10_in_10 (by decide) ?_
      refine aw_goto hX 15 dX10_in_11 (by decide) ?_
      exact aw_zret hX rfl (by first | exact Or.inl rfl | exact Or.inr rfl | assumption) rfl rfl rfl dX10_in_15 (by first | exact prT ⟨Int32.not_lt.mp c_2, Int32.not_lt.mp c_7⟩ | exact prF (fun q => Int32.not_le.mpr c_2 q.1) | exact prF (fun q => Int32.not_le.mpr c_7 q.2))
theorem tX10_copies (l : Launch) (E : EV) (n : Nat) {a b : Nat} {f g : IF} (ha : h a = some (cI 729 g)) (hb : h b = some (cI 729 f)) (hab : ¬ a = b) : MX10_copies l E n h [.ref a, .ref b] (fun r h' => r = none ∧ h' = hset h a (cI 729 f)) := by
  refine AM.intro mf_X10_copies (by simp [Value.category]) (Nat.le_of_ble_eq_true rfl) (fun X hl hE hnm hX => ?_)
  subst hl
  subst hE
  show AW X _ _ 0 0 0 [some (.ref a), some (.ref b), none] []
  have loop : ∀ (z j : Nat) (k : IF), j ≤ 729 → 729 - j < z → (∀ i, i < j → k i = f i) → AW X n (hset h a (cI 729 k)) 0 0 2 [some (.ref a), some (.ref b), some (.int (nI j))] [] := by
    intro z
    induction z with
    | zero => intro j k h1 h2; omega
    | succ z ih =>
      intro j k h1 h2 h3
      have ea := hset_eq h a (cI 729 k)
      have eb := (hset_ne h (q := b) (a := a) (cI 729 k) (fun q => hab q.symm)).trans hb
      refine aw_iload_n hX dX10_copies_2 rfl ?_
      refine aw_sipush hX (729) dX10_copies_3 (by decide) ?_
      refine aw_icmp_ge hX 21 dX10_copies_6 (by decide) (fun c_6 => ?_) (fun c_6 => ?_)
      · have n_6 : 729 ≤ j := (nI_leI (a := 729) (b := j) (by omega) (by omega)).mp c_6
        have hj : j = 729 := by omega
        subst hj
        refine AW.ext f ea (fun i hi => h3 i hi) ?_
        rw [hset_hset]
        exact aw_vret hX rfl rfl rfl rfl dX10_copies_21 ⟨rfl, rfl⟩
      · have n_6 : ¬ 729 ≤ j := fun q => c_6 ((nI_leI (a := 729) (b := j) (by omega) (by omega)).mpr q)
        refine aw_aload_n hX dX10_copies_9 rfl ?_
        refine aw_iload_n hX dX10_copies_10 rfl ?_
        refine aw_aload_n hX dX10_copies_11 rfl ?_
        refine aw_iload_n hX dX10_copies_12 rfl ?_
        refine aw_ialdN hX (j) (by assumption) rfl (by omega) (by first | decide | assumption) dX10_copies_13 ?_
        refine aw_iastN hX (j) (by assumption) rfl (by omega) (by first | decide | assumption) dX10_copies_14 ?_
        rw [hset_hset]
        refine aw_iinc hX (nI (j + 1)) dX10_copies_15 rfl (nI_1 j) ?_
        refine aw_goto hX 2 dX10_copies_18 (by decide) ?_
        exact ih (j + 1) (upd k j (f j)) (by omega) (by omega) (upd_lo2 h3)
  refine aw_iconst hX (0) dX10_copies_0 (by decide) ?_
  refine aw_istore_n hX dX10_copies_1 (Nat.le_of_ble_eq_true rfl) ?_
  rw [← hset_self ha]
  exact loop 730 0 g (by decide) (by decide) (fun i hi => absurd hi (by omega))
theorem tX10_bits (l : Launch) (E : EV) (n : Nat) (h : HP) {k : Nat} (hk : k < 256) : MX10_bits l E n h [.int (nI k)] (PR (.int (bcF (nI k))) h) := by
  refine AM.intro mf_X10_bits (by simp [Value.category]) (Nat.le_of_ble_eq_true rfl) (fun X hl hE hnm hX => ?_)
  subst hl
  subst hE
  show AW X _ _ 0 0 0 [some (.int (nI k)), none, none] []
  have loop : ∀ (z j : Nat), j ≤ 8 → 8 - j < z → AW X n h 0 0 4 [some (.int (nI k)), some (.int (nI (sumN (fun i => k / 2 ^ i % 2) j))), some (.int (nI j))] [] := by
    intro z
    induction z with
    | zero => intro j h1 h2; omega
    | succ z ih =>
      intro j h1 h2
      refine aw_iload_n hX dX10_bits_4 rfl ?_
      refine aw_bipush hX (8) dX10_bits_5 (by decide) ?_
      refine aw_icmp_ge hX 24 dX10_bits_7 (by decide) (fun c_7 => ?_) (fun c_7 => ?_)
      · have n_7 : 8 ≤ j := (nI_leI (a := 8) (b := j) (by omega) (by omega)).mp c_7
        have hj : j = 8 := by omega
        subst hj
        refine aw_iload_n hX dX10_bits_24 rfl ?_
        exact aw_iret hX rfl rfl rfl rfl dX10_bits_25 (by rw [bcF_cnt k hk, ← cnt_sum k]; exact ⟨rfl, rfl⟩)
      · have n_7 : ¬ 8 ≤ j := fun q => c_7 ((nI_leI (a := 8) (b := j) (by omega) (by omega)).mpr q)
        refine aw_iload_n hX dX10_bits_10 rfl ?_
        refine aw_iload_n hX dX10_bits_11 rfl ?_
        refine aw_iload_n hX dX10_bits_12 rfl ?_
        refine aw_ishr hX dX10_bits_13 ?_
        refine aw_iconst hX (1) dX10_bits_14 (by decide) ?_
        refine aw_iand hX dX10_bits_15 ?_
        rw [sh_bit k hk j (by omega)]
        refine aw_iadd hX dX10_bits_16 ?_
        rw [nI_add]
        refine aw_istore_n hX dX10_bits_17 (Nat.le_of_ble_eq_true rfl) ?_
        refine aw_iinc hX (nI (j + 1)) dX10_bits_18 rfl (nI_1 j) ?_
        refine aw_goto hX 4 dX10_bits_21 (by decide) ?_
        exact ih (j + 1) (by omega) (by omega)
  refine aw_iconst hX (0) dX10_bits_0 (by decide) ?_
  refine aw_istore_n hX dX10_bits_1 (Nat.le_of_ble_eq_true rfl) ?_
  refine aw_iconst hX (0) dX10_bits_2 (by decide) ?_
  refine aw_istore_n hX dX10_bits_3 (Nat.le_of_ble_eq_true rfl) ?_
  exact loop 9 0 (by decide) (by decide)
theorem tX10_bits7 (l : Launch) (E : EV) (n : Nat) (h : HP) {x : Int32} (hx : B7 x) : MX10_bits l E n h [.int x] (PR (.int (bcF x)) h) := by
  obtain ⟨k, hk, rfl⟩ := hx.ex
  exact tX10_bits l E n h (by omega)
theorem tX10_isColumn (l : Launch) (E : EV) (n : Nat) (H : HN h y s ps ty sp om) (c : Int32) : MX10_isColumn l E n h [.ref y, .int c] (PR (.int (bI (0 ≤ c ∧ c < s 0))) h) := by
  obtain ⟨e0, e1⟩ := H
  refine AM.intro mf_X10_isColumn (by simp [Value.category]) (Nat.le_of_ble_eq_true rfl) (fun X hl hE hnm hX => ?_)
  subst hl
  subst hE
  show AW X _ _ 0 0 0 [some (.ref y), some (.int c)] []
  refine aw_iload_n hX dX10_isColumn_0 rfl ?_
  refine aw_if_lt hX 18 dX10_isColumn_1 (by decide) (fun c_1 => ?_) (fun c_1 => ?_)
  · refine aw_iconst hX (0) dX10_isColumn_18 (by decide) ?_
    exact aw_zret hX rfl (by first | exact Or.inl rfl | exact Or.inr rfl | assumption) rfl rfl rfl dX10_isColumn_19 (by first | exact prT (by simp only [bI_eq0, Decidable.not_not, Int32.lt_iff_toInt_lt, Int32.le_iff_toInt_le, Int32.reduceToInt] at c_1 ⊢; omega) | exact prF (by simp only [bI_eq0, Decidable.not_not, Int32.lt_iff_toInt_lt, Int32.le_iff_toInt_le, Int32.reduceToInt] at c_1 ⊢; omega))
  · refine aw_iload_n hX dX10_isColumn_4 rfl ?_
    refine aw_aload_n hX dX10_isColumn_5 rfl ?_
    refine gt_X10_7 hX dX10_isColumn_6 (by assumption) (by exact rfl) ?_
    refine aw_iconst hX (0) dX10_isColumn_9 (by decide) ?_
    refine aw_ialdN hX (0) (by assumption) rfl (by decide) (by first | decide | assumption) dX10_isColumn_10 ?_
    refine aw_icmp_ge hX 18 dX10_isColumn_11 (by decide) (fun c_11 => ?_) (fun c_11 => ?_)
    · refine aw_iconst hX (0) dX10_isColumn_18 (by decide) ?_
      exact aw_zret hX rfl (by first | exact Or.inl rfl | exact Or.inr rfl | assumption) rfl rfl rfl dX10_isColumn_19 (by first | exact prT (by simp only [bI_eq0, Decidable.not_not, Int32.lt_iff_toInt_lt, Int32.le_iff_toInt_le, Int32.reduceToInt] at c_1 c_11 ⊢; omega) | exact prF (by simp only [bI_eq0, Decidable.not_not, Int32.lt_iff_toInt_lt, Int32.le_iff_toInt_le, Int32.reduceToInt] at c_1 c_11 ⊢; omega))
    · refine aw_iconst hX (1) dX10_isColumn_14 (by decide) ?_
      refine aw_goto hX 19 dX10_isColumn_15 (by decide) ?_
      exact aw_zret hX rfl (by first | exact Or.inl rfl | exact Or.inr rfl | assumption) rfl rfl rfl dX10_isColumn_19 (by first | exact prT (by simp only [bI_eq0, Decidable.not_not, Int32.lt_iff_toInt_lt, Int32.le_iff_toInt_le, Int32.reduceToInt] at c_1 c_11 ⊢; omega) | exact prF (by simp only [bI_eq0, Decidable.not_not, Int32.lt_iff_toInt_lt, Int32.le_iff_toInt_le, Int32.reduceToInt] at c_1 c_11 ⊢; omega))
theorem tX10_isMessage (l : Launch) (E : EV) (n : Nat) (H : HN h y s ps ty sp om) (c : Int32) : MX10_isMessage l E n h [.ref y, .int c] (PR (.int (bI (0 ≤ c ∧ c < s 4))) h) := by
  obtain ⟨e0, e1⟩ := H
  refine AM.intro mf_X10_isMessage (by simp [Value.category]) (Nat.le_of_ble_eq_true rfl) (fun X hl hE hnm hX => ?_)
  subst hl
  subst hE
  show AW X _ _ 0 0 0 [some (.ref y), some (.int c)] []
  refine aw_iload_n hX dX10_isMessage_0 rfl ?_
  refine aw_if_lt hX 18 dX10_isMessage_1 (by decide) (fun c_1 => ?_) (fun c_1 => ?_)
  · refine aw_iconst hX (0) dX10_isMessage_18 (by decide) ?_
    exact aw_zret hX rfl (by first | exact Or.inl rfl | exact Or.inr rfl | assumption) rfl rfl rfl dX10_isMessage_19 (by first | exact prT (by simp only [bI_eq0, Decidable.not_not, Int32.lt_iff_toInt_lt, Int32.le_iff_toInt_le, Int32.reduceToInt] at c_1 ⊢; omega) | exact prF (by simp only [bI_eq0, Decidable.not_not, Int32.lt_iff_toInt_lt, Int32.le_iff_toInt_le, Int32.reduceToInt] at c_1 ⊢; omega))
  · refine aw_iload_n hX dX10_isMessage_4 rfl ?_
    refine aw_aload_n hX dX10_isMessage_5 rfl ?_
    refine gt_X10_7 hX dX10_isMessage_6 (by assumption) (by exact rfl) ?_
    refine aw_iconst hX (4) dX10_isMessage_9 (by decide) ?_
    refine aw_ialdN hX (4) (by assumption) rfl (by decide) (by first | decide | assumption) dX10_isMessage_10 ?_
    refine aw_icmp_ge hX 18 dX10_isMessage_11 (by decide) (fun c_11 => ?_) (fun c_11 => ?_)
    · refine aw_iconst hX (0) dX10_isMessage_18 (by decide) ?_
      exact aw_zret hX rfl (by first | exact Or.inl rfl | exact Or.inr rfl | assumption) rfl rfl rfl dX10_isMessage_19 (by first | exact prT (by simp only [bI_eq0, Decidable.not_not, Int32.lt_iff_toInt_lt, Int32.le_iff_toInt_le, Int32.reduceToInt] at c_1 c_11 ⊢; omega) | exact prF (by simp only [bI_eq0, Decidable.not_not, Int32.lt_iff_toInt_lt, Int32.le_iff_toInt_le, Int32.reduceToInt] at c_1 c_11 ⊢; omega))
    · refine aw_iconst hX (1) dX10_isMessage_14 (by decide) ?_
      refine aw_goto hX 19 dX10_isMessage_15 (by decide) ?_
      exact aw_zret hX rfl (by first | exact Or.inl rfl | exact Or.inr rfl | assumption) rfl rfl rfl dX10_isMessage_19 (by first | exact prT (by simp only [bI_eq0, Decidable.not_not, Int32.lt_iff_toInt_lt, Int32.le_iff_toInt_le, Int32.reduceToInt] at c_1 c_11 ⊢; omega) | exact prF (by simp only [bI_eq0, Decidable.not_not, Int32.lt_iff_toInt_lt, Int32.le_iff_toInt_le, Int32.reduceToInt] at c_1 c_11 ⊢; omega))
theorem tX10_lengthOf (l : Launch) (E : EV) (n : Nat) (H : HN h y s ps ty sp om) {m : Nat} (hm : m < 8) : MX10_lengthOf l E n h [.ref y, .int (nI m)] (PR (.int (s (605 + 13 * m))) h) := by
  obtain ⟨e0, e1⟩ := H
  refine AM.intro mf_X10_lengthOf (by simp [Value.category]) (Nat.le_of_ble_eq_true rfl) (fun X hl hE hnm hX => ?_)
  subst hl
  subst hE
  show AW X _ _ 0 0 0 [some (.ref y), some (.int (nI m))] []
  refine aw_aload_n hX dX10_lengthOf_0 rfl ?_
  refine gt_X10_7 hX dX10_lengthOf_1 (by assumption) (by exact rfl) ?_
  refine aw_sipush hX (605) dX10_lengthOf_4 (by decide) ?_
  refine aw_bipush hX (13) dX10_lengthOf_7 (by decide) ?_
  refine aw_iload_n hX dX10_lengthOf_9 rfl ?_
  refine aw_imul hX dX10_lengthOf_10 ?_
  refine aw_iadd hX dX10_lengthOf_11 ?_
  refine aw_ialdN hX (605 + 13 * m) (by assumption) (ix_m m) (by omega) (by first | decide | assumption) dX10_lengthOf_12 ?_
  exact aw_iret hX rfl rfl rfl rfl dX10_lengthOf_13 (by exact ⟨rfl, rfl⟩)
theorem tX10_characterOf (l : Launch) (E : EV) (n : Nat) (H : HN h y s ps ty sp om) {m k : Nat} (hm : m < 8) (hk : k < 12) : MX10_characterOf l E n h [.ref y, .int (nI m), .int (nI k)] (PR (.int (s (605 + 13 * m + 1 + k))) h) := by
  obtain ⟨e0, e1⟩ := H
  refine AM.intro mf_X10_characterOf (by simp [Value.category]) (Nat.le_of_ble_eq_true rfl) (fun X hl hE hnm hX => ?_)
  subst hl
  subst hE
  show AW X _ _ 0 0 0 [some (.ref y), some (.int (nI m)), some (.int (nI k))] []
  refine aw_aload_n hX dX10_characterOf_0 rfl ?_
  refine gt_X10_7 hX dX10_characterOf_1 (by assumption) (by exact rfl) ?_
  refine aw_sipush hX (605) dX10_characterOf_4 (by decide) ?_
  refine aw_bipush hX (13) dX10_characterOf_7 (by decide) ?_
  refine aw_iload_n hX dX10_characterOf_9 rfl ?_
  refine aw_imul hX dX10_characterOf_10 ?_
  refine aw_iadd hX dX10_characterOf_11 ?_
  rw [ix_m m]
  refine aw_iconst hX (1) dX10_characterOf_12 (by decide) ?_
  refine aw_iadd hX dX10_characterOf_13 ?_
  rw [nI_1]
  refine aw_iload_n hX dX10_characterOf_14 rfl ?_
  refine aw_iadd hX dX10_characterOf_15 ?_
  refine aw_ialdN hX (605 + 13 * m + 1 + k) (by assumption) (nI_add _ _) (by omega) (by first | decide | assumption) dX10_characterOf_16 ?_
  exact aw_iret hX rfl rfl rfl rfl dX10_characterOf_17 (by exact ⟨rfl, rfl⟩)
theorem tX10_wideOf (l : Launch) (E : EV) (n : Nat) (H : HN h y s ps ty sp om) (R : RS s v W) {c : Nat} (hc : c ≤ 26) : MX10_wideOf l E n h [.ref y, .int (nI c)] (PR (.int (nI (wF v.2.2.1.2.1 c))) h) := by
  obtain ⟨e0, e1⟩ := H
  obtain ⟨-, -, -, -, -, -, r7, -⟩ := R
  refine AM.intro mf_X10_wideOf (by simp [Value.category]) (Nat.le_of_ble_eq_true rfl) (fun X hl hE hnm hX => ?_)
  subst hl
  subst hE
  show AW X _ _ 0 0 0 [some (.ref y), some (.int (nI c))] []
  refine aw_iload_n hX dX10_wideOf_0 rfl ?_
  refine aw_bipush hX (26) dX10_wideOf_1 (by decide) ?_
  refine aw_icmp_ne hX 10 dX10_wideOf_3 (by decide) (fun c_3 => ?_) (fun c_3 => ?_)
  · have n_3 : ¬ c = 26 := fun q => c_3 ((nI_eq (a := c) (b := 26) (by omega) (by omega)).mpr q)
    refine aw_aload_n hX dX10_wideOf_10 rfl ?_
    refine gt_X10_7 hX dX10_wideOf_11 (by assumption) (by exact rfl) ?_
    refine aw_sipush hX (449) dX10_wideOf_14 (by decide) ?_
    refine aw_bipush hX (6) dX10_wideOf_17 (by decide) ?_
    refine aw_iload_n hX dX10_wideOf_19 rfl ?_
    refine aw_imul hX dX10_wideOf_20 ?_
    refine aw_iadd hX dX10_wideOf_21 ?_
    refine aw_ialdN hX (449 + 6 * c) (by assumption) (ix_l c) (by omega) (by first | decide | assumption) dX10_wideOf_22 ?_
    rw [(r7 c (by omega)).1, show v.2.2.1.2.1 c = wF v.2.2.1.2.1 c by rw [wF, if_neg n_3]]
    exact aw_iret hX rfl rfl rfl rfl dX10_wideOf_23 (by exact ⟨rfl, rfl⟩)
  · have n_3 : c = 26 := (nI_eq (a := c) (b := 26) (by omega) (by omega)).mp c_3
    refine aw_iconst hX (2) dX10_wideOf_6 (by decide) ?_
    have hx : (2 : Int32) = nI (wF v.2.2.1.2.1 c) := by rw [wF, if_pos n_3]; rfl
    rw [hx]
    refine aw_goto hX 23 dX10_wideOf_7 (by decide) ?_
    exact aw_iret hX rfl rfl rfl rfl dX10_wideOf_23 (by exact ⟨rfl, rfl⟩)
theorem tX10_dueOf (l : Launch) (E : EV) (n : Nat) (H : HN h y s ps ty sp om) {c : Nat} (hc : c < 40) : MX10_dueOf l E n h [.ref y, .int (nI c)] (PR (.int ((s (9 + c) ^^^ s (49 + c)) &&& (s (129 + c) ^^^ (-1)))) h) := by
  obtain ⟨e0, e1⟩ := H
  refine AM.intro mf_X10_dueOf (by simp [Value.category]) (Nat.le_of_ble_eq_true rfl) (fun X hl hE hnm hX => ?_)
  subst hl
  subst hE
  show AW X _ _ 0 0 0 [some (.ref y), some (.int (nI c))] []
  refine aw_aload_n hX dX10_dueOf_0 rfl ?_
  refine gt_X10_7 hX dX10_dueOf_1 (by assumption) (by exact rfl) ?_
  refine aw_bipush hX (9) dX10_dueOf_4 (by decide) ?_
  refine aw_iload_n hX dX10_dueOf_6 rfl ?_
  refine aw_iadd hX dX10_dueOf_7 ?_
  refine aw_ialdN hX (9 + c) (by assumption) (nI_add 9 c) (by omega) (by first | decide | assumption) dX10_dueOf_8 ?_
  refine aw_aload_n hX dX10_dueOf_9 rfl ?_
  refine gt_X10_7 hX dX10_dueOf_10 (by assumption) (by exact rfl) ?_
  refine aw_bipush hX (49) dX10_dueOf_13 (by decide) ?_
  refine aw_iload_n hX dX10_dueOf_15 rfl ?_
  refine aw_iadd hX dX10_dueOf_16 ?_
  refine aw_ialdN hX (49 + c) (by assumption) (nI_add 49 c) (by omega) (by first | decide | assumption) dX10_dueOf_17 ?_
  refine aw_ixor hX dX10_dueOf_18 ?_
  refine aw_aload_n hX dX10_dueOf_19 rfl ?_
  refine gt_X10_7 hX dX10_dueOf_20 (by assumption) (by exact rfl) ?_
  refine aw_sipush hX (129) dX10_dueOf_23 (by decide) ?_
  refine aw_iload_n hX dX10_dueOf_26 rfl ?_
  refine aw_iadd hX dX10_dueOf_27 ?_
  refine aw_ialdN hX (129 + c) (by assumption) (nI_add 129 c) (by omega) (by first | decide | assumption) dX10_dueOf_28 ?_
  refine aw_iconst hX (-1) dX10_dueOf_29 (by decide) ?_
  refine aw_ixor hX dX10_dueOf_30 ?_
  refine aw_iand hX dX10_dueOf_31 ?_
  exact aw_iret hX rfl rfl rfl rfl dX10_dueOf_32 (by exact ⟨rfl, rfl⟩)
end REF1
