/-! the law's looks: strip, picture, due, wrong, best -/
theorem i_xor_comm (a b : Int32) : a ^^^ b = b ^^^ a := by
  apply Int32.toBitVec_inj.mp
  rw [Int32.toBitVec_xor, Int32.toBitVec_xor, BitVec.xor_comm]
theorem sumI_ext {f g : Nat → Int32} : ∀ n, (∀ c, c < n → f c = g c) → sumI f n = sumI g n
  | 0, _ => rfl
  | n + 1, h => by
    show sumI f n + f n = sumI g n + g n
    rw [sumI_ext n (fun c hc => h c (by omega)), h n (by omega)]
theorem sumI_le {f : Nat → Int32} : ∀ n, (∀ c, c < n → ∃ j, j ≤ 7 ∧ f c = nI j) → ∃ j, j ≤ 7 * n ∧ sumI f n = nI j
  | 0, _ => ⟨0, Nat.le_refl _, rfl⟩
  | n + 1, h => by
    obtain ⟨a, h1, h2⟩ := sumI_le n (fun c hc => h c (by omega))
    obtain ⟨b, h3, h4⟩ := h n (by omega)
    refine ⟨a + b, by omega, ?_⟩
    show sumI f n + f n = _
    rw [h2, h4, nI_add]
theorem ix13 (k : Nat) : (13 : Int32) * nI k = nI (13 * k) := by rw [show (13 : Int32) = nI 13 from rfl, pk_mul]
theorem ix13i (k i : Nat) : (13 : Int32) * nI k + nI i = nI (13 * k + i) := by rw [ix13, nI_add]
theorem ix6 (k : Nat) : (6 : Int32) * nI k = nI (6 * k) := by rw [show (6 : Int32) = nI 6 from rfl, pk_mul]
theorem ix6i (k j : Nat) : (6 : Int32) * nI k + 1 + nI j = nI (6 * k + 1 + j) := by rw [ix6, nI_1, nI_add]
theorem ix16 (k : Nat) : (16 : Int32) + nI k = nI (16 + k) := nI_add 16 k
theorem ix32 (k : Nat) : (32 : Int32) + nI k = nI (32 + k) := nI_add 32 k
theorem ix48 (k : Nat) : (48 : Int32) + nI k = nI (48 + k) := nI_add 48 k
section LLOOK
variable {h : HP} {g b lt m : IF} {f : Nat → Int64} {S : SV} {v : PV} {W P o M : Nat}
theorem tL_strip (l : Launch) (E : EV) (n : Nat) (e3 : h 192 = some (cI 24 lt)) (e4 : h 193 = some (cI 61 m)) (hl : LL lt S) (hm : LM m S) {k : Nat} (hk : k < S.2.2.2.2) : ML_strip l E n h [.ref 192, .ref 193, .int (nI k)] (PR (.int (nI (TF S k))) h) := by
  obtain ⟨⟨m0, m1⟩, m2⟩ := id hm
  obtain ⟨⟨m3, m4, m5⟩, m6⟩ := m2 k hk
  refine AM.intro mf_L_strip (by simp [Value.category]) (Nat.le_of_ble_eq_true rfl) (fun X hl hE hnm hX => ?_)
  subst hl
  subst hE
  show AW X _ _ 0 0 0 [some (.ref 192), some (.ref 193), some (.int (nI k)), none, none] []
  have loop : ∀ (z j : Nat), j ≤ S.2.2.2.1 k → S.2.2.2.1 k - j < z → AW X n h 0 0 12 [some (.ref 192), some (.ref 193), some (.int (nI k)), some (.int (nI (S.2.2.2.1 k - 1 + sumN (fun i => wF S.2.1 (S.2.2.1 (k * 12 + i))) j))), some (.int (nI (j + 1)))] [] := by
    intro z
    induction z with
    | zero => intro j h1 h2; omega
    | succ z ih =>
      intro j h1 h2
      refine aw_iload hX dL_strip_12 rfl ?_
      refine aw_aload_n hX dL_strip_14 rfl ?_
      refine aw_bipush hX (13) dL_strip_15 (by decide) ?_
      refine aw_iload_n hX dL_strip_17 rfl ?_
      refine aw_imul hX dL_strip_18 ?_
      refine aw_ialdN hX (13 * k) (by assumption) (ix13 k) (by omega) (by first | decide | assumption) dL_strip_19 ?_
      rw [m3]
      refine aw_icmp_gt hX 64 dL_strip_20 (by decide) (fun c_20 => ?_) (fun c_20 => ?_)
      · have n_20 : S.2.2.2.1 k < j + 1 := (nI_ltI (a := S.2.2.2.1 k) (b := j + 1) (by omega) (by omega)).mp c_20
        refine aw_iload_n hX dL_strip_64 rfl ?_
        exact aw_iret hX rfl rfl rfl rfl dL_strip_65 (by have hj : j = S.2.2.2.1 k := (by omega); subst hj; exact ⟨rfl, rfl⟩)
      · have n_20 : ¬ S.2.2.2.1 k < j + 1 := fun q_ => c_20 ((nI_ltI (a := S.2.2.2.1 k) (b := j + 1) (by omega) (by omega)).mpr q_)
        obtain ⟨q1, q2⟩ := m6 j (by omega)
        rw [show 13 * k + 1 + j = 13 * k + (j + 1) by omega] at q1
        refine aw_iload_n hX dL_strip_23 rfl ?_
        refine aw_aload_n hX dL_strip_24 rfl ?_
        refine aw_bipush hX (13) dL_strip_25 (by decide) ?_
        refine aw_iload_n hX dL_strip_27 rfl ?_
        refine aw_imul hX dL_strip_28 ?_
        refine aw_iload hX dL_strip_29 rfl ?_
        refine aw_iadd hX dL_strip_31 ?_
        refine aw_ialdN hX (13 * k + (j + 1)) (by assumption) (ix13i k (j + 1)) (by omega) (by first | decide | assumption) dL_strip_32 ?_
        rw [q1]
        refine aw_bipush hX (26) dL_strip_33 (by decide) ?_
        refine aw_icmp_ne hX 42 dL_strip_35 (by decide) (fun c_35 => ?_) (fun c_35 => ?_)
        · have n_35 : ¬ S.2.2.1 (k * 12 + j) = 26 := fun q_ => c_35 ((nI_eq (a := S.2.2.1 (k * 12 + j)) (b := 26) (by omega) (by omega)).mpr q_)
          refine aw_aload_n hX dL_strip_42 rfl ?_
          refine aw_bipush hX (6) dL_strip_43 (by decide) ?_
          refine aw_aload_n hX dL_strip_45 rfl ?_
          refine aw_bipush hX (13) dL_strip_46 (by decide) ?_
          refine aw_iload_n hX dL_strip_48 rfl ?_
          refine aw_imul hX dL_strip_49 ?_
          refine aw_iload hX dL_strip_50 rfl ?_
          refine aw_iadd hX dL_strip_52 ?_
          refine aw_ialdN hX (13 * k + (j + 1)) (by assumption) (ix13i k (j + 1)) (by omega) (by first | decide | assumption) dL_strip_53 ?_
          rw [q1]
          refine aw_imul hX dL_strip_54 ?_
          refine aw_ialdN hX (6 * S.2.2.1 (k * 12 + j)) (by assumption) (ix6 _) (by omega) (by first | decide | assumption) dL_strip_55 ?_
          rw [(hl _ (by omega : S.2.2.1 (k * 12 + j) < 4)).1]
          refine AW.top (y := nI (wF S.2.1 (S.2.2.1 (k * 12 + j)))) (by first | exact (congrArg nI (if_pos n_35)).symm | exact (congrArg nI (if_neg n_35)).symm) ?_
          refine aw_iadd hX dL_strip_56 ?_
          rw [nI_add, show S.2.2.2.1 k - 1 + sumN (fun i => wF S.2.1 (S.2.2.1 (k * 12 + i))) j + wF S.2.1 (S.2.2.1 (k * 12 + j)) = S.2.2.2.1 k - 1 + sumN (fun i => wF S.2.1 (S.2.2.1 (k * 12 + i))) (j + 1) from Nat.add_assoc _ _ _]
          refine aw_istore_n hX dL_strip_57 (Nat.le_of_ble_eq_true rfl) ?_
          refine aw_iinc hX (nI (j + 1 + 1)) dL_strip_58 rfl (nI_1 (j + 1)) ?_
          refine aw_goto hX 12 dL_strip_61 (by decide) ?_
          exact ih (j + 1) (by omega) (by omega)
        · have n_35 : S.2.2.1 (k * 12 + j) = 26 := (nI_eq (a := S.2.2.1 (k * 12 + j)) (b := 26) (by omega) (by omega)).mp c_35
          refine aw_iconst hX (2) dL_strip_38 (by decide) ?_
          refine aw_goto hX 56 dL_strip_39 (by decide) ?_
          refine AW.top (y := nI (wF S.2.1 (S.2.2.1 (k * 12 + j)))) (by first | exact (congrArg nI (if_pos n_35)).symm | exact (congrArg nI (if_neg n_35)).symm) ?_
          refine aw_iadd hX dL_strip_56 ?_
          rw [nI_add, show S.2.2.2.1 k - 1 + sumN (fun i => wF S.2.1 (S.2.2.1 (k * 12 + i))) j + wF S.2.1 (S.2.2.1 (k * 12 + j)) = S.2.2.2.1 k - 1 + sumN (fun i => wF S.2.1 (S.2.2.1 (k * 12 + i))) (j + 1) from Nat.add_assoc _ _ _]
          refine aw_istore_n hX dL_strip_57 (Nat.le_of_ble_eq_true rfl) ?_
          refine aw_iinc hX (nI (j + 1 + 1)) dL_strip_58 rfl (nI_1 (j + 1)) ?_
          refine aw_goto hX 12 dL_strip_61 (by decide) ?_
          exact ih (j + 1) (by omega) (by omega)
  refine aw_aload_n hX dL_strip_0 rfl ?_
  refine aw_bipush hX (13) dL_strip_1 (by decide) ?_
  refine aw_iload_n hX dL_strip_3 rfl ?_
  refine aw_imul hX dL_strip_4 ?_
  refine aw_ialdN hX (13 * k) (by assumption) (ix13 k) (by omega) (by first | decide | assumption) dL_strip_5 ?_
  rw [m3]
  refine aw_iconst hX (1) dL_strip_6 (by decide) ?_
  refine aw_isub hX dL_strip_7 ?_
  rw [show nI (S.2.2.2.1 k) - 1 = nI (S.2.2.2.1 k - 1) from pk_sub (b := 1) m4]
  refine aw_istore_n hX dL_strip_8 (Nat.le_of_ble_eq_true rfl) ?_
  refine aw_iconst hX (1) dL_strip_9 (by decide) ?_
  refine aw_istore hX dL_strip_10 (Nat.le_of_ble_eq_true rfl) ?_
  exact loop (S.2.2.2.1 k + 1) 0 (by omega) (by omega)
theorem tL_picture (l : Launch) (E : EV) (n : Nat) (e0 : h 189 = some (cI 28 g)) (e3 : h 192 = some (cI 24 lt)) (e4 : h 193 = some (cI 61 m)) (g0 : g 0 = nI W) (hW : W ≤ 14) (hl : LL lt S) (hm : LM m S) (hS : WS S) {k c : Nat} (hk : k < S.2.2.2.2) (hc : c < W) {s : Int} (hs1 : -2 ≤ s) (hs2 : s ≤ 2) : ML_picture l E n h [.ref 189, .ref 192, .ref 193, .int (nI k), .int (iI s), .int (nI c)] (PR (.int (pF W S k s c)) h) := by
  obtain ⟨⟨m0, m1⟩, m2⟩ := id hm
  obtain ⟨⟨m3, m4, m5⟩, m6⟩ := m2 k hk
  have hT := hS.T71 hk
  have hp : pF W S k s c = sbF S.1 S.2.1 (fun i => S.2.2.1 (k * 12 + i)) (S.2.2.2.1 k) 0 ((c : Int) - stF W (TF S k) s) := if_pos hc
  rw [hp]
  have hst : -2 ≤ stF W (TF S k) s ∧ stF W (TF S k) s ≤ 20 := by
    unfold stF
    split <;> omega
  refine AM.intro mf_L_picture (by simp [Value.category]) (Nat.le_of_ble_eq_true rfl) (fun X hl hE hnm hX => ?_)
  subst hl
  subst hE
  show AW X _ _ 0 0 0 [some (.ref 189), some (.ref 192), some (.ref 193), some (.int (nI k)), some (.int (iI s)), some (.int (nI c)), none, none, none, none, none] []
  have loop : ∀ (r i : Nat) (y : Int) (x6 a1 a2 : Option Value), i + r = S.2.2.2.1 k → -1000 ≤ y → y ≤ 1000 → sbF S.1 S.2.1 (fun i => S.2.2.1 (k * 12 + i)) (S.2.2.2.1 k) 0 ((c : Int) - stF W (TF S k) s) = sbF S.1 S.2.1 (fun i => S.2.2.1 (k * 12 + i)) r i y → AW X n h 0 0 39 [some (.ref 189), some (.ref 192), some (.ref 193), some (.int (nI k)), some (.int (iI s)), some (.int (nI c)), x6, some (.int (iI y)), some (.int (nI (i + 1))), a1, a2] [] := by
    intro r
    induction r with
    | zero =>
      intro i y x6 a1 a2 h1 h2 h3 h4
      rw [sbF] at h4
      refine aw_iload hX dL_picture_39 rfl ?_
      refine aw_aload_n hX dL_picture_41 rfl ?_
      refine aw_bipush hX (13) dL_picture_42 (by decide) ?_
      refine aw_iload_n hX dL_picture_44 rfl ?_
      refine aw_imul hX dL_picture_45 ?_
      refine aw_ialdN hX (13 * k) (by assumption) (ix13 k) (by omega) (by first | decide | assumption) dL_picture_46 ?_
      rw [m3]
      refine aw_icmp_gt hX 132 dL_picture_47 (by decide) (fun c_47 => ?_) (fun c_47 => ?_)
      · have n_47 : S.2.2.2.1 k < i + 1 := (nI_ltI (a := S.2.2.2.1 k) (b := i + 1) (by omega) (by omega)).mp c_47
        refine aw_iconst hX (0) dL_picture_132 (by decide) ?_
        exact aw_iret hX rfl rfl rfl rfl dL_picture_133 (by exact ⟨by rw [h4], rfl⟩)
      · have n_47 : ¬ S.2.2.2.1 k < i + 1 := fun q_ => c_47 ((nI_ltI (a := S.2.2.2.1 k) (b := i + 1) (by omega) (by omega)).mpr q_)
        exact absurd n_47 (by omega)
    | succ r ih =>
      intro i y x6 a1 a2 h1 h2 h3 h4
      have hy0 : iI y < 0 ↔ y < 0 := iI_lt (b := 0) (by omega) (by omega) (by decide) (by decide)
      obtain ⟨q1, q2⟩ := m6 i (by omega)
      rw [show 13 * k + 1 + i = 13 * k + (i + 1) by omega] at q1
      have hw5 : wF S.2.1 (S.2.2.1 (k * 12 + i)) ≤ 5 := hS.wF5 (by omega)
      have hyw : nI (wF S.2.1 (S.2.2.1 (k * 12 + i))) ≤ iI y ↔ (wF S.2.1 (S.2.2.1 (k * 12 + i)) : Int) ≤ y := by
        rw [iI_n]
        exact iI_le (by omega) (by omega) (by omega) (by omega)
      rw [sbF] at h4
      refine aw_iload hX dL_picture_39 rfl ?_
      refine aw_aload_n hX dL_picture_41 rfl ?_
      refine aw_bipush hX (13) dL_picture_42 (by decide) ?_
      refine aw_iload_n hX dL_picture_44 rfl ?_
      refine aw_imul hX dL_picture_45 ?_
      refine aw_ialdN hX (13 * k) (by assumption) (ix13 k) (by omega) (by first | decide | assumption) dL_picture_46 ?_
      rw [m3]
      refine aw_icmp_gt hX 132 dL_picture_47 (by decide) (fun c_47 => ?_) (fun c_47 => ?_)
      · have n_47 : S.2.2.2.1 k < i + 1 := (nI_ltI (a := S.2.2.2.1 k) (b := i + 1) (by omega) (by omega)).mp c_47
        exact absurd n_47 (by omega)
      · have n_47 : ¬ S.2.2.2.1 k < i + 1 := fun q_ => c_47 ((nI_ltI (a := S.2.2.2.1 k) (b := i + 1) (by omega) (by omega)).mpr q_)
        refine aw_iload hX dL_picture_50 rfl ?_
        refine aw_if_lt hX 132 dL_picture_52 (by decide) (fun c_52 => ?_) (fun c_52 => ?_)
        · rw [if_pos (hy0.mp c_52)] at h4
          refine aw_iconst hX (0) dL_picture_132 (by decide) ?_
          exact aw_iret hX rfl rfl rfl rfl dL_picture_133 (by exact ⟨by rw [h4], rfl⟩)
        · have hy : ¬ y < 0 := fun q => c_52 (hy0.mpr q)
          rw [if_neg hy] at h4
          refine aw_aload_n hX dL_picture_55 rfl ?_
          refine aw_bipush hX (13) dL_picture_56 (by decide) ?_
          refine aw_iload_n hX dL_picture_58 rfl ?_
          refine aw_imul hX dL_picture_59 ?_
          refine aw_iload hX dL_picture_60 rfl ?_
          refine aw_iadd hX dL_picture_62 ?_
          refine aw_ialdN hX (13 * k + (i + 1)) (by assumption) (ix13i k (i + 1)) (by omega) (by first | decide | assumption) dL_picture_63 ?_
          rw [q1]
          refine aw_istore hX dL_picture_64 (Nat.le_of_ble_eq_true rfl) ?_
          refine aw_iload hX dL_picture_66 rfl ?_
          refine aw_bipush hX (26) dL_picture_68 (by decide) ?_
          refine aw_icmp_ne hX 77 dL_picture_70 (by decide) (fun c_70 => ?_) (fun c_70 => ?_)
          · have n_70 : ¬ S.2.2.1 (k * 12 + i) = 26 := fun q_ => c_70 ((nI_eq (a := S.2.2.1 (k * 12 + i)) (b := 26) (by omega) (by omega)).mpr q_)
            refine aw_aload_n hX dL_picture_77 rfl ?_
            refine aw_bipush hX (6) dL_picture_78 (by decide) ?_
            refine aw_iload hX dL_picture_80 rfl ?_
            refine aw_imul hX dL_picture_82 ?_
            refine aw_ialdN hX (6 * S.2.2.1 (k * 12 + i)) (by assumption) (ix6 _) (by omega) (by first | decide | assumption) dL_picture_83 ?_
            rw [(hl _ (by omega : S.2.2.1 (k * 12 + i) < 4)).1]
            refine AW.top (y := nI (wF S.2.1 (S.2.2.1 (k * 12 + i)))) (by first | exact (congrArg nI (if_pos n_70)).symm | exact (congrArg nI (if_neg n_70)).symm) ?_
            refine aw_istore hX dL_picture_84 (Nat.le_of_ble_eq_true rfl) ?_
            refine aw_iload hX dL_picture_86 rfl ?_
            refine aw_iload hX dL_picture_88 rfl ?_
            refine aw_icmp_ge hX 117 dL_picture_90 (by decide) (fun c_90 => ?_) (fun c_90 => ?_)
            · have hge : ¬ y < (wF S.2.1 (S.2.2.1 (k * 12 + i)) : Int) := Int.not_lt.mpr (hyw.mp c_90)
              rw [if_neg hge] at h4
              refine aw_iload hX dL_picture_117 rfl ?_
              refine aw_iload hX dL_picture_119 rfl ?_
              refine aw_iconst hX (1) dL_picture_121 (by decide) ?_
              refine aw_iadd hX dL_picture_122 ?_
              rw [nI_1]
              refine aw_isub hX dL_picture_123 ?_
              rw [iI_n (wF S.2.1 (S.2.2.1 (k * 12 + i)) + 1), iI_sub]
              refine aw_istore hX dL_picture_124 (Nat.le_of_ble_eq_true rfl) ?_
              refine aw_iinc hX (nI (i + 1 + 1)) dL_picture_126 rfl (nI_1 (i + 1)) ?_
              refine aw_goto hX 39 dL_picture_129 (by decide) ?_
              exact ih (i + 1) (y - ((wF S.2.1 (S.2.2.1 (k * 12 + i)) + 1 : Nat) : Int)) _ _ _ (by omega) (by omega) (by omega) (by rw [h4]; push_cast; rfl)
            · have hlt : y < (wF S.2.1 (S.2.2.1 (k * 12 + i)) : Int) := Int.not_le.mp (fun q => c_90 (hyw.mpr q))
              rw [if_pos hlt] at h4
              refine aw_iload hX dL_picture_93 rfl ?_
              refine aw_bipush hX (26) dL_picture_95 (by decide) ?_
              refine aw_icmp_ne hX 104 dL_picture_97 (by decide) (fun c_97 => ?_) (fun c_97 => ?_)
              · have n_97 : ¬ S.2.2.1 (k * 12 + i) = 26 := fun q_ => c_97 ((nI_eq (a := S.2.2.1 (k * 12 + i)) (b := 26) (by omega) (by omega)).mpr q_)
                rw [iI_nn (Int.not_lt.mp hy)]
                have hw3 : wF S.2.1 (S.2.2.1 (k * 12 + i)) = S.2.1 (S.2.2.1 (k * 12 + i)) := if_neg n_97
                have hv : lt (6 * S.2.2.1 (k * 12 + i) + 1 + y.toNat) = cF S.1 (S.2.2.1 (k * 12 + i)) y.toNat := ((hl _ (by omega : S.2.2.1 (k * 12 + i) < 4)).2 y.toNat (by omega)).trans (if_neg n_97).symm
                refine aw_aload_n hX dL_picture_104 rfl ?_
                refine aw_bipush hX (6) dL_picture_105 (by decide) ?_
                refine aw_iload hX dL_picture_107 rfl ?_
                refine aw_imul hX dL_picture_109 ?_
                refine aw_iconst hX (1) dL_picture_110 (by decide) ?_
                refine aw_iadd hX dL_picture_111 ?_
                refine aw_iload hX dL_picture_112 rfl ?_
                refine aw_iadd hX dL_picture_114 ?_
                refine aw_ialdN hX (6 * S.2.2.1 (k * 12 + i) + 1 + y.toNat) (by assumption) (ix6i _ _) (by omega) (by first | decide | assumption) dL_picture_115 ?_
                exact aw_iret hX rfl rfl rfl rfl dL_picture_116 (by exact ⟨congrArg (fun z => some (Value.int z)) (hv.trans h4.symm), rfl⟩)
              · have n_97 : S.2.2.1 (k * 12 + i) = 26 := (nI_eq (a := S.2.2.1 (k * 12 + i)) (b := 26) (by omega) (by omega)).mp c_97
                have hv : (0 : Int32) = cF S.1 (S.2.2.1 (k * 12 + i)) y.toNat := (if_pos n_97).symm
                refine aw_iconst hX (0) dL_picture_100 (by decide) ?_
                refine aw_goto hX 116 dL_picture_101 (by decide) ?_
                exact aw_iret hX rfl rfl rfl rfl dL_picture_116 (by exact ⟨congrArg (fun z => some (Value.int z)) (hv.trans h4.symm), rfl⟩)
          · have n_70 : S.2.2.1 (k * 12 + i) = 26 := (nI_eq (a := S.2.2.1 (k * 12 + i)) (b := 26) (by omega) (by omega)).mp c_70
            refine aw_iconst hX (2) dL_picture_73 (by decide) ?_
            refine aw_goto hX 84 dL_picture_74 (by decide) ?_
            refine AW.top (y := nI (wF S.2.1 (S.2.2.1 (k * 12 + i)))) (by first | exact (congrArg nI (if_pos n_70)).symm | exact (congrArg nI (if_neg n_70)).symm) ?_
            refine aw_istore hX dL_picture_84 (Nat.le_of_ble_eq_true rfl) ?_
            refine aw_iload hX dL_picture_86 rfl ?_
            refine aw_iload hX dL_picture_88 rfl ?_
            refine aw_icmp_ge hX 117 dL_picture_90 (by decide) (fun c_90 => ?_) (fun c_90 => ?_)
            · have hge : ¬ y < (wF S.2.1 (S.2.2.1 (k * 12 + i)) : Int) := Int.not_lt.mpr (hyw.mp c_90)
              rw [if_neg hge] at h4
              refine aw_iload hX dL_picture_117 rfl ?_
              refine aw_iload hX dL_picture_119 rfl ?_
              refine aw_iconst hX (1) dL_picture_121 (by decide) ?_
              refine aw_iadd hX dL_picture_122 ?_
              rw [nI_1]
              refine aw_isub hX dL_picture_123 ?_
              rw [iI_n (wF S.2.1 (S.2.2.1 (k * 12 + i)) + 1), iI_sub]
              refine aw_istore hX dL_picture_124 (Nat.le_of_ble_eq_true rfl) ?_
              refine aw_iinc hX (nI (i + 1 + 1)) dL_picture_126 rfl (nI_1 (i + 1)) ?_
              refine aw_goto hX 39 dL_picture_129 (by decide) ?_
              exact ih (i + 1) (y - ((wF S.2.1 (S.2.2.1 (k * 12 + i)) + 1 : Nat) : Int)) _ _ _ (by omega) (by omega) (by omega) (by rw [h4]; push_cast; rfl)
            · have hlt : y < (wF S.2.1 (S.2.2.1 (k * 12 + i)) : Int) := Int.not_le.mp (fun q => c_90 (hyw.mpr q))
              rw [if_pos hlt] at h4
              refine aw_iload hX dL_picture_93 rfl ?_
              refine aw_bipush hX (26) dL_picture_95 (by decide) ?_
              refine aw_icmp_ne hX 104 dL_picture_97 (by decide) (fun c_97 => ?_) (fun c_97 => ?_)
              · have n_97 : ¬ S.2.2.1 (k * 12 + i) = 26 := fun q_ => c_97 ((nI_eq (a := S.2.2.1 (k * 12 + i)) (b := 26) (by omega) (by omega)).mpr q_)
                rw [iI_nn (Int.not_lt.mp hy)]
                have hw3 : wF S.2.1 (S.2.2.1 (k * 12 + i)) = S.2.1 (S.2.2.1 (k * 12 + i)) := if_neg n_97
                have hv : lt (6 * S.2.2.1 (k * 12 + i) + 1 + y.toNat) = cF S.1 (S.2.2.1 (k * 12 + i)) y.toNat := ((hl _ (by omega : S.2.2.1 (k * 12 + i) < 4)).2 y.toNat (by omega)).trans (if_neg n_97).symm
                refine aw_aload_n hX dL_picture_104 rfl ?_
                refine aw_bipush hX (6) dL_picture_105 (by decide) ?_
                refine aw_iload hX dL_picture_107 rfl ?_
                refine aw_imul hX dL_picture_109 ?_
                refine aw_iconst hX (1) dL_picture_110 (by decide) ?_
                refine aw_iadd hX dL_picture_111 ?_
                refine aw_iload hX dL_picture_112 rfl ?_
                refine aw_iadd hX dL_picture_114 ?_
                refine aw_ialdN hX (6 * S.2.2.1 (k * 12 + i) + 1 + y.toNat) (by assumption) (ix6i _ _) (by omega) (by first | decide | assumption) dL_picture_115 ?_
                exact aw_iret hX rfl rfl rfl rfl dL_picture_116 (by exact ⟨congrArg (fun z => some (Value.int z)) (hv.trans h4.symm), rfl⟩)
              · have n_97 : S.2.2.1 (k * 12 + i) = 26 := (nI_eq (a := S.2.2.1 (k * 12 + i)) (b := 26) (by omega) (by omega)).mp c_97
                have hv : (0 : Int32) = cF S.1 (S.2.2.1 (k * 12 + i)) y.toNat := (if_pos n_97).symm
                refine aw_iconst hX (0) dL_picture_100 (by decide) ?_
                refine aw_goto hX 116 dL_picture_101 (by decide) ?_
                exact aw_iret hX rfl rfl rfl rfl dL_picture_116 (by exact ⟨congrArg (fun z => some (Value.int z)) (hv.trans h4.symm), rfl⟩)
  refine aw_aload_n hX dL_picture_0 rfl ?_
  refine aw_aload_n hX dL_picture_1 rfl ?_
  refine aw_iload_n hX dL_picture_2 rfl ?_
  refine aw_callSp hX RL rfl (tL_strip _ _ _ e3 e4 hl hm hk) rfl mf_L_strip mt_L_strip kl_L_9 rfl (by decide) (Nat.le_of_ble_eq_true rfl) dL_picture_3 (by decide) ?_
  refine aw_istore hX dL_picture_6 (Nat.le_of_ble_eq_true rfl) ?_
  refine aw_iload hX dL_picture_8 rfl ?_
  refine aw_iload hX dL_picture_10 rfl ?_
  refine aw_isub hX dL_picture_12 ?_
  rw [iI_n c, iI_sub]
  refine aw_iload hX dL_picture_13 rfl ?_
  refine aw_aload_n hX dL_picture_15 rfl ?_
  refine aw_iconst hX (0) dL_picture_16 (by decide) ?_
  refine aw_ialdN hX (0) (by assumption) rfl (by decide) (by first | decide | assumption) dL_picture_17 ?_
  rw [g0]
  refine aw_icmp_le hX 25 dL_picture_18 (by decide) (fun c_18 => ?_) (fun c_18 => ?_)
  · have n_18 : TF S k ≤ W := (nI_leI (a := TF S k) (b := W) (by omega) (by omega)).mp c_18
    refine aw_aload_n hX dL_picture_25 rfl ?_
    refine aw_iconst hX (0) dL_picture_26 (by decide) ?_
    refine aw_ialdN hX (0) (by assumption) rfl (by decide) (by first | decide | assumption) dL_picture_27 ?_
    rw [g0]
    refine aw_iload hX dL_picture_28 rfl ?_
    refine aw_isub hX dL_picture_30 ?_
    rw [show nI W - nI (TF S k) = nI (W - TF S k) from pk_sub (by omega)]
    refine aw_iconst hX (2) dL_picture_31 (by decide) ?_
    refine aw_idiv hX dL_picture_32 (by decide) ?_
    refine AW.top (y := iI (((W - TF S k) / 2 : Nat) : Int)) (by rw [← iI_n]; exact pk_div (a := W - TF S k) (d := 2) (by omega) (by decide) (by decide)) ?_
    refine aw_isub hX dL_picture_33 ?_
    refine AW.top (y := iI ((c : Int) - stF W (TF S k) s)) (by first | (rw [iI_sub, stF, if_pos n_18]; exact congrArg iI (by omega)) | (rw [stF, if_neg n_18]; exact Int32.sub_zero _)) ?_
    refine aw_istore hX dL_picture_34 (Nat.le_of_ble_eq_true rfl) ?_
    refine aw_iconst hX (1) dL_picture_36 (by decide) ?_
    refine aw_istore hX dL_picture_37 (Nat.le_of_ble_eq_true rfl) ?_
    rw [← iI_n c]
    exact loop (S.2.2.2.1 k) 0 _ _ _ _ (by omega) (by omega) (by omega) rfl
  · have n_18 : ¬ TF S k ≤ W := fun q_ => c_18 ((nI_leI (a := TF S k) (b := W) (by omega) (by omega)).mpr q_)
    refine aw_iconst hX (0) dL_picture_21 (by decide) ?_
    refine aw_goto hX 33 dL_picture_22 (by decide) ?_
    refine aw_isub hX dL_picture_33 ?_
    refine AW.top (y := iI ((c : Int) - stF W (TF S k) s)) (by first | (rw [iI_sub, stF, if_pos n_18]; exact congrArg iI (by omega)) | (rw [stF, if_neg n_18]; exact Int32.sub_zero _)) ?_
    refine aw_istore hX dL_picture_34 (Nat.le_of_ble_eq_true rfl) ?_
    refine aw_iconst hX (1) dL_picture_36 (by decide) ?_
    refine aw_istore hX dL_picture_37 (Nat.le_of_ble_eq_true rfl) ?_
    rw [← iI_n c]
    exact loop (S.2.2.2.1 k) 0 _ _ _ _ (by omega) (by omega) (by omega) rfl
/-- the dots' part, with the cells -/
theorem tL_due (l : Launch) (E : EV) (n : Nat) (e0 : h 189 = some (cI 28 g)) (e1 : h 190 = some (cI 64 b)) (H : LD g b f v W P o M) : ML_due l E n h [.ref 189, .ref 190] (PR (.int (dueN v)) h) := by
  obtain ⟨⟨hV, hW, hZ⟩, ⟨⟨g0, -⟩, -⟩, hb, -⟩ := H
  have hB := hV.2.2.2.2.2
  have hd : dueN v = sumI (fun c => bcF ((v.1.2.2.1 c ^^^ v.1.2.1 c) &&& (v.1.2.2.2.2.1 c ^^^ (-1)))) W := (sumI_40 (by omega) (fun c h1 h2 => by
    obtain ⟨z1, z2, z3, z4⟩ := hZ c h1 h2
    rw [z1, z2, z4]
    decide)).symm
  rw [hd]
  refine AM.intro mf_L_due (by simp [Value.category]) (Nat.le_of_ble_eq_true rfl) (fun X hl hE hnm hX => ?_)
  subst hl
  subst hE
  show AW X _ _ 0 0 0 [some (.ref 189), some (.ref 190), none, none] []
  have loop : ∀ (z c : Nat), c ≤ W → W - c < z → AW X n h 0 0 4 [some (.ref 189), some (.ref 190), some (.int (sumI (fun c => bcF ((v.1.2.2.1 c ^^^ v.1.2.1 c) &&& (v.1.2.2.2.2.1 c ^^^ (-1)))) c)), some (.int (nI c))] [] := by
    intro z
    induction z with
    | zero => intro c h1 h2; omega
    | succ z ih =>
      intro c h1 h2
      refine aw_iload_n hX dL_due_4 rfl ?_
      refine aw_aload_n hX dL_due_5 rfl ?_
      refine aw_iconst hX (0) dL_due_6 (by decide) ?_
      refine aw_ialdN hX (0) (by assumption) rfl (by decide) (by first | decide | assumption) dL_due_7 ?_
      rw [g0]
      refine aw_icmp_ge hX 45 dL_due_8 (by decide) (fun c_8 => ?_) (fun c_8 => ?_)
      · have n_8 : W ≤ c := (nI_leI (a := W) (b := c) (by omega) (by omega)).mp c_8
        refine aw_iload_n hX dL_due_45 rfl ?_
        exact aw_iret hX rfl rfl rfl rfl dL_due_46 (by have hc : c = W := (by omega); subst hc; exact ⟨rfl, rfl⟩)
      · have n_8 : ¬ W ≤ c := fun q_ => c_8 ((nI_leI (a := W) (b := c) (by omega) (by omega)).mpr q_)
        obtain ⟨b1, b2, b3, b4⟩ := hb c (by omega)
        obtain ⟨w1, w2, w3, w4⟩ := hB c (by omega)
        refine aw_iload_n hX dL_due_11 rfl ?_
        refine aw_aload_n hX dL_due_12 rfl ?_
        refine aw_iload_n hX dL_due_13 rfl ?_
        refine aw_ialdN hX (c) (by assumption) rfl (by omega) (by first | decide | assumption) dL_due_14 ?_
        rw [b1]
        refine aw_aload_n hX dL_due_15 rfl ?_
        refine aw_bipush hX (16) dL_due_16 (by decide) ?_
        refine aw_iload_n hX dL_due_18 rfl ?_
        refine aw_iadd hX dL_due_19 ?_
        refine aw_ialdN hX (16 + c) (by assumption) (ix16 c) (by omega) (by first | decide | assumption) dL_due_20 ?_
        rw [b2]
        refine aw_ixor hX dL_due_21 ?_
        refine aw_aload_n hX dL_due_22 rfl ?_
        refine aw_bipush hX (48) dL_due_23 (by decide) ?_
        refine aw_iload_n hX dL_due_25 rfl ?_
        refine aw_iadd hX dL_due_26 ?_
        refine aw_ialdN hX (48 + c) (by assumption) (ix48 c) (by omega) (by first | decide | assumption) dL_due_27 ?_
        rw [b4]
        refine aw_iconst hX (-1) dL_due_28 (by decide) ?_
        refine aw_ixor hX dL_due_29 ?_
        refine aw_iand hX dL_due_30 ?_
        refine aw_bipush hX (127) dL_due_31 (by decide) ?_
        refine aw_iand hX dL_due_33 ?_
        refine AW.top (y := (v.1.2.2.1 c ^^^ v.1.2.1 c) &&& (v.1.2.2.2.2.1 c ^^^ (-1))) (by rw [i_xor_comm (v.1.2.1 c)]; exact (w2.xor w1).and _) ?_
        refine aw_callSp hX RL rfl (tL_bits _ _ _ _ ((w2.xor w1).and _)) rfl mf_L_bits mt_L_bits kl_L_15 rfl (by decide) (Nat.le_of_ble_eq_true rfl) dL_due_34 (by decide) ?_
        refine aw_iadd hX dL_due_37 ?_
        refine aw_istore_n hX dL_due_38 (Nat.le_of_ble_eq_true rfl) ?_
        refine aw_iinc hX (nI (c + 1)) dL_due_39 rfl (nI_1 c) ?_
        refine aw_goto hX 4 dL_due_42 (by decide) ?_
        exact ih (c + 1) (by omega) (by omega)
  refine aw_iconst hX (0) dL_due_0 (by decide) ?_
  refine aw_istore_n hX dL_due_1 (Nat.le_of_ble_eq_true rfl) ?_
  refine aw_iconst hX (0) dL_due_2 (by decide) ?_
  refine aw_istore_n hX dL_due_3 (Nat.le_of_ble_eq_true rfl) ?_
  exact loop (W + 1) 0 (by omega) (by omega)
theorem pF_W {S : SV} {W k : Nat} {s : Int} {c : Nat} (h : W ≤ c) : pF W S k s c = 0 := if_neg (by omega)
theorem tL_wrong1 (l : Launch) (E : EV) (n : Nat) (e0 : h 189 = some (cI 28 g)) (e1 : h 190 = some (cI 64 b)) (e3 : h 192 = some (cI 24 lt)) (e4 : h 193 = some (cI 61 m)) (H : LD g b f v W P o M) (hl : LL lt v.2.2.1) (hm : LM m v.2.2.1) (hSB : SB v.2.2.1) {k : Nat} (hk : k < v.2.2.1.2.2.2.2) {s : Int} (hs1 : -2 ≤ s) (hs2 : s ≤ 2) : ML_wrong l E n h [.ref 189, .ref 190, .ref 192, .ref 193, .int (nI k), .int (iI s), .int 1] (PR (.int (agF v (pF W v.2.2.1 k s))) h) := by
  obtain ⟨⟨hV, hW, hZ⟩, ⟨⟨g0, -⟩, -⟩, hb, -⟩ := H
  have hB := hV.2.2.2.2.2
  have hd : agF v (pF W v.2.2.1 k s) = sumI (fun c => bcF ((pF W v.2.2.1 k s c ^^^ v.1.2.1 c) &&& v.1.2.2.2.2.1 c)) W := (sumI_40 (by omega) (fun c h1 h2 => by
    obtain ⟨z1, z2, z3, z4⟩ := hZ c h1 h2
    rw [z1, z4, pF_W h1]
    decide)).symm
  rw [hd]
  refine AM.intro mf_L_wrong (by simp [Value.category]) (Nat.le_of_ble_eq_true rfl) (fun X hl hE hnm hX => ?_)
  subst hl
  subst hE
  show AW X _ _ 0 0 0 [some (.ref 189), some (.ref 190), some (.ref 192), some (.ref 193), some (.int (nI k)), some (.int (iI s)), some (.int 1), none, none, none] []
  have loop : ∀ (z c : Nat) (x : Option Value), c ≤ W → W - c < z → AW X n h 0 0 6 [some (.ref 189), some (.ref 190), some (.ref 192), some (.ref 193), some (.int (nI k)), some (.int (iI s)), some (.int 1), some (.int (sumI (fun c => bcF ((pF W v.2.2.1 k s c ^^^ v.1.2.1 c) &&& v.1.2.2.2.2.1 c)) c)), some (.int (nI c)), x] [] := by
    intro z
    induction z with
    | zero => intro c x h1 h2; omega
    | succ z ih =>
      intro c x h1 h2
      refine aw_iload hX dL_wrong_6 rfl ?_
      refine aw_aload_n hX dL_wrong_8 rfl ?_
      refine aw_iconst hX (0) dL_wrong_9 (by decide) ?_
      refine aw_ialdN hX (0) (by assumption) rfl (by decide) (by first | decide | assumption) dL_wrong_10 ?_
      rw [g0]
      refine aw_icmp_ge hX 77 dL_wrong_11 (by decide) (fun c_11 => ?_) (fun c_11 => ?_)
      · have n_11 : W ≤ c := (nI_leI (a := W) (b := c) (by omega) (by omega)).mp c_11
        refine aw_iload hX dL_wrong_77 rfl ?_
        exact aw_iret hX rfl rfl rfl rfl dL_wrong_79 (by have hc : c = W := (by omega); subst hc; exact ⟨rfl, rfl⟩)
      · have n_11 : ¬ W ≤ c := fun q_ => c_11 ((nI_leI (a := W) (b := c) (by omega) (by omega)).mpr q_)
        obtain ⟨b1, b2, b3, b4⟩ := hb c (by omega)
        obtain ⟨w1, w2, w3, w4⟩ := hB c (by omega)
        refine aw_aload_n hX dL_wrong_14 rfl ?_
        refine aw_iload hX dL_wrong_15 rfl ?_
        refine aw_ialdN hX (c) (by assumption) rfl (by omega) (by first | decide | assumption) dL_wrong_17 ?_
        rw [b1]
        refine aw_aload_n hX dL_wrong_18 rfl ?_
        refine aw_aload_n hX dL_wrong_19 rfl ?_
        refine aw_aload_n hX dL_wrong_20 rfl ?_
        refine aw_iload hX dL_wrong_21 rfl ?_
        refine aw_iload hX dL_wrong_23 rfl ?_
        refine aw_iload hX dL_wrong_25 rfl ?_
        refine aw_callSp hX RL rfl (tL_picture _ _ _ e0 e3 e4 g0 hW hl hm hV.2.2.1 hk (by omega) hs1 hs2) rfl mf_L_picture mt_L_picture kl_L_25 rfl (by decide) (Nat.le_of_ble_eq_true rfl) dL_wrong_27 (by decide) ?_
        refine aw_ixor hX dL_wrong_30 ?_
        refine aw_istore hX dL_wrong_31 (Nat.le_of_ble_eq_true rfl) ?_
        refine aw_iload hX dL_wrong_33 rfl ?_
        refine aw_iload hX dL_wrong_35 rfl ?_
        refine aw_if_eq hX 53 dL_wrong_37 (by decide) (fun c_37 => ?_) (fun c_37 => ?_)
        · exact absurd c_37 (by decide)
        · refine aw_iload hX dL_wrong_40 rfl ?_
          refine aw_aload_n hX dL_wrong_42 rfl ?_
          refine aw_bipush hX (48) dL_wrong_43 (by decide) ?_
          refine aw_iload hX dL_wrong_45 rfl ?_
          refine aw_iadd hX dL_wrong_47 ?_
          refine aw_ialdN hX (48 + c) (by assumption) (ix48 c) (by omega) (by first | decide | assumption) dL_wrong_48 ?_
          rw [b4]
          refine aw_iand hX dL_wrong_49 ?_
          rw [i_xor_comm (v.1.2.1 c)]
          refine aw_goto hX 65 dL_wrong_50 (by decide) ?_
          refine aw_callSp hX RL rfl (tL_bits _ _ _ _ (((pF_B7 hSB W k s c).xor w1).and _)) rfl mf_L_bits mt_L_bits kl_L_15 rfl (by decide) (Nat.le_of_ble_eq_true rfl) dL_wrong_65 (by decide) ?_
          refine aw_iadd hX dL_wrong_68 ?_
          refine aw_istore hX dL_wrong_69 (Nat.le_of_ble_eq_true rfl) ?_
          refine aw_iinc hX (nI (c + 1)) dL_wrong_71 rfl (nI_1 c) ?_
          refine aw_goto hX 6 dL_wrong_74 (by decide) ?_
          exact ih (c + 1) _ (by omega) (by omega)
  refine aw_iconst hX (0) dL_wrong_0 (by decide) ?_
  refine aw_istore hX dL_wrong_1 (Nat.le_of_ble_eq_true rfl) ?_
  refine aw_iconst hX (0) dL_wrong_3 (by decide) ?_
  refine aw_istore hX dL_wrong_4 (Nat.le_of_ble_eq_true rfl) ?_
  exact loop (W + 1) 0 _ (by omega) (by omega)
theorem tL_wrong0 (l : Launch) (E : EV) (n : Nat) (e0 : h 189 = some (cI 28 g)) (e1 : h 190 = some (cI 64 b)) (e3 : h 192 = some (cI 24 lt)) (e4 : h 193 = some (cI 61 m)) (H : LD g b f v W P o M) (hl : LL lt v.2.2.1) (hm : LM m v.2.2.1) (hSB : SB v.2.2.1) {k : Nat} (hk : k < v.2.2.1.2.2.2.2) {s : Int} (hs1 : -2 ≤ s) (hs2 : s ≤ 2) : ML_wrong l E n h [.ref 189, .ref 190, .ref 192, .ref 193, .int (nI k), .int (iI s), .int 0] (PR (.int (dfF v (pF W v.2.2.1 k s) v.1.2.1)) h) := by
  obtain ⟨⟨hV, hW, hZ⟩, ⟨⟨g0, -⟩, -⟩, hb, -⟩ := H
  have hB := hV.2.2.2.2.2
  have hd : dfF v (pF W v.2.2.1 k s) v.1.2.1 = sumI (fun c => bcF ((pF W v.2.2.1 k s c ^^^ v.1.2.1 c) &&& (v.1.2.2.2.2.1 c ^^^ (-1)))) W := (sumI_40 (by omega) (fun c h1 h2 => by
    obtain ⟨z1, z2, z3, z4⟩ := hZ c h1 h2
    rw [z1, z4, pF_W h1]
    decide)).symm
  rw [hd]
  refine AM.intro mf_L_wrong (by simp [Value.category]) (Nat.le_of_ble_eq_true rfl) (fun X hl hE hnm hX => ?_)
  subst hl
  subst hE
  show AW X _ _ 0 0 0 [some (.ref 189), some (.ref 190), some (.ref 192), some (.ref 193), some (.int (nI k)), some (.int (iI s)), some (.int 0), none, none, none] []
  have loop : ∀ (z c : Nat) (x : Option Value), c ≤ W → W - c < z → AW X n h 0 0 6 [some (.ref 189), some (.ref 190), some (.ref 192), some (.ref 193), some (.int (nI k)), some (.int (iI s)), some (.int 0), some (.int (sumI (fun c => bcF ((pF W v.2.2.1 k s c ^^^ v.1.2.1 c) &&& (v.1.2.2.2.2.1 c ^^^ (-1)))) c)), some (.int (nI c)), x] [] := by
    intro z
    induction z with
    | zero => intro c x h1 h2; omega
    | succ z ih =>
      intro c x h1 h2
      refine aw_iload hX dL_wrong_6 rfl ?_
      refine aw_aload_n hX dL_wrong_8 rfl ?_
      refine aw_iconst hX (0) dL_wrong_9 (by decide) ?_
      refine aw_ialdN hX (0) (by assumption) rfl (by decide) (by first | decide | assumption) dL_wrong_10 ?_
      rw [g0]
      refine aw_icmp_ge hX 77 dL_wrong_11 (by decide) (fun c_11 => ?_) (fun c_11 => ?_)
      · have n_11 : W ≤ c := (nI_leI (a := W) (b := c) (by omega) (by omega)).mp c_11
        refine aw_iload hX dL_wrong_77 rfl ?_
        exact aw_iret hX rfl rfl rfl rfl dL_wrong_79 (by have hc : c = W := (by omega); subst hc; exact ⟨rfl, rfl⟩)
      · have n_11 : ¬ W ≤ c := fun q_ => c_11 ((nI_leI (a := W) (b := c) (by omega) (by omega)).mpr q_)
        obtain ⟨b1, b2, b3, b4⟩ := hb c (by omega)
        obtain ⟨w1, w2, w3, w4⟩ := hB c (by omega)
        refine aw_aload_n hX dL_wrong_14 rfl ?_
        refine aw_iload hX dL_wrong_15 rfl ?_
        refine aw_ialdN hX (c) (by assumption) rfl (by omega) (by first | decide | assumption) dL_wrong_17 ?_
        rw [b1]
        refine aw_aload_n hX dL_wrong_18 rfl ?_
        refine aw_aload_n hX dL_wrong_19 rfl ?_
        refine aw_aload_n hX dL_wrong_20 rfl ?_
        refine aw_iload hX dL_wrong_21 rfl ?_
        refine aw_iload hX dL_wrong_23 rfl ?_
        refine aw_iload hX dL_wrong_25 rfl ?_
        refine aw_callSp hX RL rfl (tL_picture _ _ _ e0 e3 e4 g0 hW hl hm hV.2.2.1 hk (by omega) hs1 hs2) rfl mf_L_picture mt_L_picture kl_L_25 rfl (by decide) (Nat.le_of_ble_eq_true rfl) dL_wrong_27 (by decide) ?_
        refine aw_ixor hX dL_wrong_30 ?_
        refine aw_istore hX dL_wrong_31 (Nat.le_of_ble_eq_true rfl) ?_
        refine aw_iload hX dL_wrong_33 rfl ?_
        refine aw_iload hX dL_wrong_35 rfl ?_
        refine aw_if_eq hX 53 dL_wrong_37 (by decide) (fun c_37 => ?_) (fun c_37 => ?_)
        · refine aw_iload hX dL_wrong_53 rfl ?_
          refine aw_aload_n hX dL_wrong_55 rfl ?_
          refine aw_bipush hX (48) dL_wrong_56 (by decide) ?_
          refine aw_iload hX dL_wrong_58 rfl ?_
          refine aw_iadd hX dL_wrong_60 ?_
          refine aw_ialdN hX (48 + c) (by assumption) (ix48 c) (by omega) (by first | decide | assumption) dL_wrong_61 ?_
          rw [b4]
          refine aw_iconst hX (-1) dL_wrong_62 (by decide) ?_
          refine aw_ixor hX dL_wrong_63 ?_
          refine aw_iand hX dL_wrong_64 ?_
          rw [i_xor_comm (v.1.2.1 c)]
          refine aw_callSp hX RL rfl (tL_bits _ _ _ _ (((pF_B7 hSB W k s c).xor w1).and _)) rfl mf_L_bits mt_L_bits kl_L_15 rfl (by decide) (Nat.le_of_ble_eq_true rfl) dL_wrong_65 (by decide) ?_
          refine aw_iadd hX dL_wrong_68 ?_
          refine aw_istore hX dL_wrong_69 (Nat.le_of_ble_eq_true rfl) ?_
          refine aw_iinc hX (nI (c + 1)) dL_wrong_71 rfl (nI_1 c) ?_
          refine aw_goto hX 6 dL_wrong_74 (by decide) ?_
          exact ih (c + 1) _ (by omega) (by omega)
        · exact absurd rfl c_37
  refine aw_iconst hX (0) dL_wrong_0 (by decide) ?_
  refine aw_istore hX dL_wrong_1 (Nat.le_of_ble_eq_true rfl) ?_
  refine aw_iconst hX (0) dL_wrong_3 (by decide) ?_
  refine aw_istore hX dL_wrong_4 (Nat.le_of_ble_eq_true rfl) ?_
  exact loop (W + 1) 0 _ (by omega) (by omega)
/-! the best shift: the law looks from the last to the first, the class from the first to the last -/
def lbN (a d : Nat → Nat) : Nat → Nat
  | 0 => 4
  | t + 1 => if a (4 - t) < a (lbN a d t) ∨ (a (4 - t) = a (lbN a d t) ∧ d (4 - t) ≤ d (lbN a d t)) then 4 - t else lbN a d t
def bsN (a d : Nat → Nat) : Nat → Nat
  | 0 => 0
  | k + 1 => if k = 0 ∨ a k < a (bsN a d k) ∨ (a k = a (bsN a d k) ∧ d k < d (bsN a d k)) then k else bsN a d k
theorem lb_ch {a d : Nat → Nat} (hd : ∀ k, d k ≤ 280) : ∀ t, t ≤ 5 → lbN a d t ≤ 4 ∧ (∀ k, 5 - t ≤ k → k ≤ 4 → a (lbN a d t) * 1000 + d (lbN a d t) ≤ a k * 1000 + d k) ∧ ∀ k, 5 - t ≤ k → k < lbN a d t → a (lbN a d t) * 1000 + d (lbN a d t) < a k * 1000 + d k
  | 0, _ => ⟨Nat.le_refl _, fun k h1 h2 => by omega, fun k h1 h2 => by have h3 : k < 4 := h2; omega⟩
  | t + 1, ht => by
    obtain ⟨h1, h2, h3⟩ := lb_ch hd t (by omega)
    have d1 := hd (4 - t)
    have d2 := hd (lbN a d t)
    rw [lbN]
    split
    · rename_i q
      have q2 : a (4 - t) * 1000 + d (4 - t) ≤ a (lbN a d t) * 1000 + d (lbN a d t) := by omega
      refine ⟨by omega, fun k g1 g2 => ?_, fun k g1 g2 => by omega⟩
      by_cases e : k = 4 - t
      · rw [e]
        exact Nat.le_refl _
      · exact Nat.le_trans q2 (h2 k (by omega) g2)
    · rename_i q
      have q2 : a (lbN a d t) * 1000 + d (lbN a d t) < a (4 - t) * 1000 + d (4 - t) := by omega
      refine ⟨h1, fun k g1 g2 => ?_, fun k g1 g2 => ?_⟩
      · by_cases e : k = 4 - t
        · rw [e]
          exact Nat.le_of_lt q2
        · exact h2 k (by omega) g2
      · by_cases e : k = 4 - t
        · rw [e]
          exact q2
        · exact h3 k (by omega) g2
theorem bs_ch {a d : Nat → Nat} (hd : ∀ k, d k ≤ 280) : ∀ k, bsN a d (k + 1) ≤ k ∧ (∀ j, j ≤ k → a (bsN a d (k + 1)) * 1000 + d (bsN a d (k + 1)) ≤ a j * 1000 + d j) ∧ ∀ j, j < bsN a d (k + 1) → a (bsN a d (k + 1)) * 1000 + d (bsN a d (k + 1)) < a j * 1000 + d j
  | 0 => ⟨Nat.le_refl _, fun j hj => by rw [Nat.le_zero.mp hj]; exact Nat.le_refl _, fun j hj => absurd hj (Nat.not_lt_zero j)⟩
  | k + 1 => by
    obtain ⟨h1, h2, h3⟩ := bs_ch (a := a) hd k
    have d1 := hd (k + 1)
    have d2 := hd (bsN a d (k + 1))
    rw [bsN]
    split
    · rename_i q
      have q2 : a (k + 1) * 1000 + d (k + 1) < a (bsN a d (k + 1)) * 1000 + d (bsN a d (k + 1)) := by omega
      refine ⟨Nat.le_refl _, fun j hj => ?_, fun j hj => Nat.lt_of_lt_of_le q2 (h2 j (by omega))⟩
      by_cases e : j = k + 1
      · rw [e]
        exact Nat.le_refl _
      · exact Nat.le_trans (Nat.le_of_lt q2) (h2 j (by omega))
    · rename_i q
      have q2 : a (bsN a d (k + 1)) * 1000 + d (bsN a d (k + 1)) ≤ a (k + 1) * 1000 + d (k + 1) := by omega
      refine ⟨by omega, fun j hj => ?_, h3⟩
      by_cases e : j = k + 1
      · rw [e]
        exact q2
      · exact h2 j (by omega)
theorem lb_bs {a d : Nat → Nat} (hd : ∀ k, d k ≤ 280) : lbN a d 5 = bsN a d 5 := by
  obtain ⟨h1, h2, h3⟩ := lb_ch (a := a) hd 5 (Nat.le_refl _)
  obtain ⟨g1, g2, g3⟩ := bs_ch (a := a) hd 4
  rcases Nat.lt_trichotomy (lbN a d 5) (bsN a d 5) with q | q | q
  · have e1 := g3 _ q
    have e2 := h2 (bsN a d 5) (by omega) (by omega)
    have e3 : a (lbN a d 5) * 1000 + d (lbN a d 5) ≤ a (bsN a d 5) * 1000 + d (bsN a d 5) := e2
    have e4 : a (bsN a d 5) * 1000 + d (bsN a d 5) < a (lbN a d 5) * 1000 + d (lbN a d 5) := e1
    omega
  · exact q
  · have e1 := h3 (bsN a d 5) (by omega) q
    have e2 := g2 (lbN a d 5) (by omega)
    have e3 : a (bsN a d 5) * 1000 + d (bsN a d 5) ≤ a (lbN a d 5) * 1000 + d (lbN a d 5) := e2
    omega
theorem ag_le (hB : BO v) {p : IF} (hp : ∀ c, B7 (p c)) : ∃ j, j ≤ 280 ∧ agF v p = nI j :=
  sumI_le 40 (fun c hc => ((((hp c).xor (hB c hc).1)).and _).bc)
theorem df_le (hB : BO v) {p o : IF} (hp : ∀ c, B7 (p c)) (ho : ∀ c, c < 40 → B7 (o c)) : ∃ j, j ≤ 280 ∧ dfF v p o = nI j :=
  sumI_le 40 (fun c hc => ((((hp c).xor (ho c hc))).and _).bc)
theorem bsF_N {k : Nat} {a d : Nat → Nat} (ha : ∀ i, a i ≤ 280 ∧ agF v (pF W v.2.2.1 k (SH i)) = nI (a i)) (hd : ∀ i, d i ≤ 280 ∧ dfF v (pF W v.2.2.1 k (SH i)) v.1.2.1 = nI (d i)) : ∀ i, bsF v W k (i + 1) = (SH (bsN a d (i + 1)), nI (a (bsN a d (i + 1))), nI (d (bsN a d (i + 1))))
  | 0 => by
    have h0 := (ha 0).1
    rw [bsF, if_pos (Or.inl (by rw [(ha 0).2]; exact (nI_ltI (a := a 0) (b := 2147483647) (by omega) (by decide)).mpr (by omega))), (ha 0).2, (hd 0).2]
    rfl
  | i + 1 => by
    have ih := bsF_N ha hd i
    rw [bsF, ih, (ha (i + 1)).2, (hd (i + 1)).2]
    show (if nI (a (i + 1)) < nI (a (bsN a d (i + 1))) ∨ nI (a (i + 1)) = nI (a (bsN a d (i + 1))) ∧ nI (d (i + 1)) < nI (d (bsN a d (i + 1))) then (SH (i + 1), nI (a (i + 1)), nI (d (i + 1))) else (SH (bsN a d (i + 1)), nI (a (bsN a d (i + 1))), nI (d (bsN a d (i + 1))))) = _
    have a1 := (ha (i + 1)).1
    have a2 := (ha (bsN a d (i + 1))).1
    have d1 := (hd (i + 1)).1
    have d2 := (hd (bsN a d (i + 1))).1
    have c1 := nI_ltI (a := a (i + 1)) (b := a (bsN a d (i + 1))) (by omega) (by omega)
    have c2 := nI_eq (a := a (i + 1)) (b := a (bsN a d (i + 1))) (by omega) (by omega)
    have c3 := nI_ltI (a := d (i + 1)) (b := d (bsN a d (i + 1))) (by omega) (by omega)
    by_cases q : a (i + 1) < a (bsN a d (i + 1)) ∨ (a (i + 1) = a (bsN a d (i + 1)) ∧ d (i + 1) < d (bsN a d (i + 1)))
    · have e : bsN a d (i + 1 + 1) = i + 1 := by rw [bsN]; exact if_pos (Or.inr q)
      rw [e, if_pos (q.elim (fun z => Or.inl (c1.mpr z)) (fun z => Or.inr ⟨c2.mpr z.1, c3.mpr z.2⟩))]
    · have e : bsN a d (i + 1 + 1) = bsN a d (i + 1) := by rw [bsN]; exact if_neg (fun z => z.elim (fun w => absurd w (by omega)) q)
      rw [e, if_neg (fun z => q (z.elim (fun w => Or.inl (c1.mp w)) (fun w => Or.inr ⟨c2.mp w.1, c3.mp w.2⟩)))]
theorem zb_cmp {x y : Nat} (hx : x ≤ 280) (hy : y ≤ 280) : (nI x - nI y < 0 ↔ x < y) ∧ (nI x - nI y = 0 ↔ x = y) ∧ (0 < nI x - nI y ↔ y < x) := by
  rw [iI_n, iI_n, iI_sub]
  refine ⟨?_, ?_, ?_⟩
  · exact (iI_lt (b := 0) (by omega) (by omega) (by decide) (by decide)).trans (by omega)
  · exact (iI_inj (b := 0) (by omega) (by omega) (by decide) (by decide)).trans (by omega)
  · exact (iI_lt (a := 0) (by decide) (by decide) (by omega) (by omega)).trans (by omega)
theorem tL_best (l : Launch) (E : EV) (n : Nat) (e0 : h 189 = some (cI 28 g)) (e1 : h 190 = some (cI 64 b)) (e3 : h 192 = some (cI 24 lt)) (e4 : h 193 = some (cI 61 m)) (H : LD g b f v W P o M) (hl : LL lt v.2.2.1) (hm : LM m v.2.2.1) (hSB : SB v.2.2.1) {k : Nat} (hk : k < v.2.2.1.2.2.2.2) : ML_best l E n h [.ref 189, .ref 190, .ref 192, .ref 193, .int (nI k)] (PR (.int (iI (bestF v W k))) h) := by
  have hB := H.1.1.2.2.2.2.2
  obtain ⟨a, ha⟩ := Classical.skolem.mp (fun i => ag_le hB (p := pF W v.2.2.1 k (SH i)) (pF_B7 hSB W k (SH i)))
  obtain ⟨d, hd⟩ := Classical.skolem.mp (fun i => df_le hB (p := pF W v.2.2.1 k (SH i)) (o := v.1.2.1) (pF_B7 hSB W k (SH i)) (fun c hc => (hB c hc).1))
  have hres : bestF v W k = SH (lbN a d 5) := by rw [bestF, bsF_N ha hd 4, lb_bs (fun i => (hd i).1)]
  rw [hres]
  refine AM.intro mf_L_best (by simp [Value.category]) (Nat.le_of_ble_eq_true rfl) (fun X hl hE hnm hX => ?_)
  subst hl
  subst hE
  show AW X _ _ 0 0 0 [some (.ref 189), some (.ref 190), some (.ref 192), some (.ref 193), some (.int (nI k)), none, none, none, none, none] []
  have loop : ∀ (z t : Nat) (x7 x8 x9 : Option Value), t ≤ 5 → 5 - t < z → AW X n h 0 0 6 [some (.ref 189), some (.ref 190), some (.ref 192), some (.ref 193), some (.int (nI k)), some (.int (iI (SH (lbN a d t)))), some (.int (iI (4 - t))), x7, x8, x9] [] := by
    intro z
    induction z with
    | zero => intro t x7 x8 x9 h1 h2; omega
    | succ z ih =>
      intro t x7 x8 x9 h1 h2
      have hlt : iI (4 - t) < 0 ↔ (4 : Int) - t < 0 := iI_lt (b := 0) (by omega) (by omega) (by decide) (by decide)
      have hlb := (lb_ch (a := a) (fun i => (hd i).1) t h1).1
      obtain ⟨b1, b2⟩ := SH_in (k := lbN a d t) (by omega)
      obtain ⟨b3, b4⟩ := SH_in (k := 4 - t) (by omega)
      obtain ⟨s1, s2, s3⟩ := zb_cmp (ha (4 - t)).1 (ha (lbN a d t)).1
      obtain ⟨s4, s5, s6⟩ := zb_cmp (hd (4 - t)).1 (hd (lbN a d t)).1
      refine aw_iload hX dL_best_6 rfl ?_
      refine aw_if_lt hX 128 dL_best_8 (by decide) (fun c_8 => ?_) (fun c_8 => ?_)
      · refine aw_iload hX dL_best_128 rfl ?_
        exact aw_iret hX rfl rfl rfl rfl dL_best_130 (by have ht : t = 5 := (by have := hlt.mp c_8; omega); subst ht; exact ⟨rfl, rfl⟩)
      · have ht : t < 5 := by have : ¬ (4 : Int) - t < 0 := fun q => c_8 (hlt.mpr q); omega
        refine aw_iload hX dL_best_11 rfl ?_
        refine aw_if_ne hX 20 dL_best_13 (by decide) (fun c_13 => ?_) (fun c_13 => ?_)
        · refine aw_iload hX dL_best_20 rfl ?_
          refine aw_iconst hX (2) dL_best_22 (by decide) ?_
          refine aw_irem hX dL_best_23 (by decide) ?_
          refine aw_iconst hX (1) dL_best_24 (by decide) ?_
          refine aw_icmp_ne hX 38 dL_best_25 (by decide) (fun c_25 => ?_) (fun c_25 => ?_)
          · refine aw_iload hX dL_best_38 rfl ?_
            refine aw_iconst hX (2) dL_best_40 (by decide) ?_
            refine aw_idiv hX dL_best_41 (by decide) ?_
            refine AW.top (y := iI (SH (4 - t))) (by clear ih b1 b2 b3 b4 s1 s2 s3 s4 s5 s6 hlb hlt h2; rcases (show t = 0 ∨ t = 1 ∨ t = 2 ∨ t = 3 ∨ t = 4 by omega) with q | q | q | q | q <;> subst q <;> first | (revert c_13 c_25; decide) | (revert c_13; decide)) ?_
            refine aw_istore hX dL_best_42 (Nat.le_of_ble_eq_true rfl) ?_
            refine aw_aload_n hX dL_best_44 rfl ?_
            refine aw_aload_n hX dL_best_45 rfl ?_
            refine aw_aload_n hX dL_best_46 rfl ?_
            refine aw_aload_n hX dL_best_47 rfl ?_
            refine aw_iload hX dL_best_48 rfl ?_
            refine aw_iload hX dL_best_50 rfl ?_
            refine aw_iconst hX (1) dL_best_52 (by decide) ?_
            refine aw_callSp hX RL rfl (tL_wrong1 _ _ _ e0 e1 e3 e4 H hl hm hSB hk b3 b4) rfl mf_L_wrong mt_L_wrong kl_L_29 rfl (by decide) (Nat.le_of_ble_eq_true rfl) dL_best_53 (by decide) ?_
            refine aw_aload_n hX dL_best_56 rfl ?_
            refine aw_aload_n hX dL_best_57 rfl ?_
            refine aw_aload_n hX dL_best_58 rfl ?_
            refine aw_aload_n hX dL_best_59 rfl ?_
            refine aw_iload hX dL_best_60 rfl ?_
            refine aw_iload hX dL_best_62 rfl ?_
            refine aw_iconst hX (1) dL_best_64 (by decide) ?_
            refine aw_callSp hX RL rfl (tL_wrong1 _ _ _ e0 e1 e3 e4 H hl hm hSB hk b1 b2) rfl mf_L_wrong mt_L_wrong kl_L_29 rfl (by decide) (Nat.le_of_ble_eq_true rfl) dL_best_65 (by decide) ?_
            refine aw_isub hX dL_best_68 ?_
            rw [(ha (4 - t)).2, (ha (lbN a d t)).2]
            refine aw_istore hX dL_best_69 (Nat.le_of_ble_eq_true rfl) ?_
            refine aw_aload_n hX dL_best_71 rfl ?_
            refine aw_aload_n hX dL_best_72 rfl ?_
            refine aw_aload_n hX dL_best_73 rfl ?_
            refine aw_aload_n hX dL_best_74 rfl ?_
            refine aw_iload hX dL_best_75 rfl ?_
            refine aw_iload hX dL_best_77 rfl ?_
            refine aw_iconst hX (0) dL_best_79 (by decide) ?_
            refine aw_callSp hX RL rfl (tL_wrong0 _ _ _ e0 e1 e3 e4 H hl hm hSB hk b3 b4) rfl mf_L_wrong mt_L_wrong kl_L_29 rfl (by decide) (Nat.le_of_ble_eq_true rfl) dL_best_80 (by decide) ?_
            refine aw_aload_n hX dL_best_83 rfl ?_
            refine aw_aload_n hX dL_best_84 rfl ?_
            refine aw_aload_n hX dL_best_85 rfl ?_
            refine aw_aload_n hX dL_best_86 rfl ?_
            refine aw_iload hX dL_best_87 rfl ?_
            refine aw_iload hX dL_best_89 rfl ?_
            refine aw_iconst hX (0) dL_best_91 (by decide) ?_
            refine aw_callSp hX RL rfl (tL_wrong0 _ _ _ e0 e1 e3 e4 H hl hm hSB hk b1 b2) rfl mf_L_wrong mt_L_wrong kl_L_29 rfl (by decide) (Nat.le_of_ble_eq_true rfl) dL_best_92 (by decide) ?_
            refine aw_isub hX dL_best_95 ?_
            rw [(hd (4 - t)).2, (hd (lbN a d t)).2]
            refine aw_istore hX dL_best_96 (Nat.le_of_ble_eq_true rfl) ?_
            refine aw_iload hX dL_best_98 rfl ?_
            refine aw_if_lt hX 113 dL_best_100 (by decide) (fun c_100 => ?_) (fun c_100 => ?_)
            · have hc : SH (lbN a d (t + 1)) = SH (4 - t) := congrArg SH (by rw [lbN]; first | exact if_pos (Or.inl (s1.mp c_100)) | exact if_pos (Or.inr ⟨s2.mp c_105, Nat.not_lt.mp (fun q => c_110 (s6.mpr q))⟩))
              refine aw_iload hX dL_best_113 rfl ?_
              refine aw_goto hX 120 dL_best_115 (by decide) ?_
              rw [← hc]
              refine aw_istore hX dL_best_120 (Nat.le_of_ble_eq_true rfl) ?_
              refine aw_iinc hX (iI (4 - ((t + 1 : Nat) : Int))) dL_best_122 rfl ((by rw [show Int32.ofInt (-1) = iI (-1) from rfl, iI_add]; exact congrArg iI (by omega))) ?_
              refine aw_goto hX 6 dL_best_125 (by decide) ?_
              exact ih (t + 1) _ _ _ (by omega) (by omega)
            · refine aw_iload hX dL_best_103 rfl ?_
              refine aw_if_ne hX 118 dL_best_105 (by decide) (fun c_105 => ?_) (fun c_105 => ?_)
              · have hc : SH (lbN a d (t + 1)) = SH (lbN a d t) := congrArg SH (by rw [lbN]; exact if_neg (fun q => q.elim (fun w => c_100 (s1.mpr w)) (fun w => c_105 (s2.mpr w.1))))
                refine aw_iload hX dL_best_118 rfl ?_
                rw [← hc]
                refine aw_istore hX dL_best_120 (Nat.le_of_ble_eq_true rfl) ?_
                refine aw_iinc hX (iI (4 - ((t + 1 : Nat) : Int))) dL_best_122 rfl ((by rw [show Int32.ofInt (-1) = iI (-1) from rfl, iI_add]; exact congrArg iI (by omega))) ?_
                refine aw_goto hX 6 dL_best_125 (by decide) ?_
                exact ih (t + 1) _ _ _ (by omega) (by omega)
              · refine aw_iload hX dL_best_108 rfl ?_
                refine aw_if_gt hX 118 dL_best_110 (by decide) (fun c_110 => ?_) (fun c_110 => ?_)
                · have hc : lbN a d (t + 1) = lbN a d t := (by rw [lbN]; exact if_neg (fun q => q.elim (fun w => c_100 (s1.mpr w)) (fun w => Nat.not_lt.mpr w.2 (s6.mp c_110))))
                  refine aw_iload hX dL_best_118 rfl ?_
                  rw [← hc]
                  refine aw_istore hX dL_best_120 (Nat.le_of_ble_eq_true rfl) ?_
                  refine aw_iinc hX (iI (4 - ((t + 1 : Nat) : Int))) dL_best_122 rfl (by rw [show Int32.ofInt (-1) = iI (-1) from rfl, iI_add]; exact congrArg iI (by omega)) ?_
                  refine aw_goto hX 6 dL_best_125 (by decide) ?_
                  exact ih (t + 1) _ _ _ (by omega) (by omega)
                · have hc : SH (lbN a d (t + 1)) = SH (4 - t) := congrArg SH (by rw [lbN]; first | exact if_pos (Or.inl (s1.mp c_100)) | exact if_pos (Or.inr ⟨s2.mp c_105, Nat.not_lt.mp (fun q => c_110 (s6.mpr q))⟩))
                  refine aw_iload hX dL_best_113 rfl ?_
                  refine aw_goto hX 120 dL_best_115 (by decide) ?_
                  rw [← hc]
                  refine aw_istore hX dL_best_120 (Nat.le_of_ble_eq_true rfl) ?_
                  refine aw_iinc hX (iI (4 - ((t + 1 : Nat) : Int))) dL_best_122 rfl ((by rw [show Int32.ofInt (-1) = iI (-1) from rfl, iI_add]; exact congrArg iI (by omega))) ?_
                  refine aw_goto hX 6 dL_best_125 (by decide) ?_
                  exact ih (t + 1) _ _ _ (by omega) (by omega)
          · refine aw_iload hX dL_best_28 rfl ?_
            refine aw_iconst hX (1) dL_best_30 (by decide) ?_
            refine aw_iadd hX dL_best_31 ?_
            refine aw_ineg hX dL_best_32 ?_
            refine aw_iconst hX (2) dL_best_33 (by decide) ?_
            refine aw_idiv hX dL_best_34 (by decide) ?_
            refine aw_goto hX 42 dL_best_35 (by decide) ?_
            refine AW.top (y := iI (SH (4 - t))) (by clear ih b1 b2 b3 b4 s1 s2 s3 s4 s5 s6 hlb hlt h2; rcases (show t = 0 ∨ t = 1 ∨ t = 2 ∨ t = 3 ∨ t = 4 by omega) with q | q | q | q | q <;> subst q <;> first | (revert c_13 c_25; decide) | (revert c_13; decide)) ?_
            refine aw_istore hX dL_best_42 (Nat.le_of_ble_eq_true rfl) ?_
            refine aw_aload_n hX dL_best_44 rfl ?_
            refine aw_aload_n hX dL_best_45 rfl ?_
            refine aw_aload_n hX dL_best_46 rfl ?_
            refine aw_aload_n hX dL_best_47 rfl ?_
            refine aw_iload hX dL_best_48 rfl ?_
            refine aw_iload hX dL_best_50 rfl ?_
            refine aw_iconst hX (1) dL_best_52 (by decide) ?_
            refine aw_callSp hX RL rfl (tL_wrong1 _ _ _ e0 e1 e3 e4 H hl hm hSB hk b3 b4) rfl mf_L_wrong mt_L_wrong kl_L_29 rfl (by decide) (Nat.le_of_ble_eq_true rfl) dL_best_53 (by decide) ?_
            refine aw_aload_n hX dL_best_56 rfl ?_
            refine aw_aload_n hX dL_best_57 rfl ?_
            refine aw_aload_n hX dL_best_58 rfl ?_
            refine aw_aload_n hX dL_best_59 rfl ?_
            refine aw_iload hX dL_best_60 rfl ?_
            refine aw_iload hX dL_best_62 rfl ?_
            refine aw_iconst hX (1) dL_best_64 (by decide) ?_
            refine aw_callSp hX RL rfl (tL_wrong1 _ _ _ e0 e1 e3 e4 H hl hm hSB hk b1 b2) rfl mf_L_wrong mt_L_wrong kl_L_29 rfl (by decide) (Nat.le_of_ble_eq_true rfl) dL_best_65 (by decide) ?_
            refine aw_isub hX dL_best_68 ?_
            rw [(ha (4 - t)).2, (ha (lbN a d t)).2]
            refine aw_istore hX dL_best_69 (Nat.le_of_ble_eq_true rfl) ?_
            refine aw_aload_n hX dL_best_71 rfl ?_
            refine aw_aload_n hX dL_best_72 rfl ?_
            refine aw_aload_n hX dL_best_73 rfl ?_
            refine aw_aload_n hX dL_best_74 rfl ?_
            refine aw_iload hX dL_best_75 rfl ?_
            refine aw_iload hX dL_best_77 rfl ?_
            refine aw_iconst hX (0) dL_best_79 (by decide) ?_
            refine aw_callSp hX RL rfl (tL_wrong0 _ _ _ e0 e1 e3 e4 H hl hm hSB hk b3 b4) rfl mf_L_wrong mt_L_wrong kl_L_29 rfl (by decide) (Nat.le_of_ble_eq_true rfl) dL_best_80 (by decide) ?_
            refine aw_aload_n hX dL_best_83 rfl ?_
            refine aw_aload_n hX dL_best_84 rfl ?_
            refine aw_aload_n hX dL_best_85 rfl ?_
            refine aw_aload_n hX dL_best_86 rfl ?_
            refine aw_iload hX dL_best_87 rfl ?_
            refine aw_iload hX dL_best_89 rfl ?_
            refine aw_iconst hX (0) dL_best_91 (by decide) ?_
            refine aw_callSp hX RL rfl (tL_wrong0 _ _ _ e0 e1 e3 e4 H hl hm hSB hk b1 b2) rfl mf_L_wrong mt_L_wrong kl_L_29 rfl (by decide) (Nat.le_of_ble_eq_true rfl) dL_best_92 (by decide) ?_
            refine aw_isub hX dL_best_95 ?_
            rw [(hd (4 - t)).2, (hd (lbN a d t)).2]
            refine aw_istore hX dL_best_96 (Nat.le_of_ble_eq_true rfl) ?_
            refine aw_iload hX dL_best_98 rfl ?_
            refine aw_if_lt hX 113 dL_best_100 (by decide) (fun c_100 => ?_) (fun c_100 => ?_)
            · have hc : SH (lbN a d (t + 1)) = SH (4 - t) := congrArg SH (by rw [lbN]; first | exact if_pos (Or.inl (s1.mp c_100)) | exact if_pos (Or.inr ⟨s2.mp c_105, Nat.not_lt.mp (fun q => c_110 (s6.mpr q))⟩))
              refine aw_iload hX dL_best_113 rfl ?_
              refine aw_goto hX 120 dL_best_115 (by decide) ?_
              rw [← hc]
              refine aw_istore hX dL_best_120 (Nat.le_of_ble_eq_true rfl) ?_
              refine aw_iinc hX (iI (4 - ((t + 1 : Nat) : Int))) dL_best_122 rfl ((by rw [show Int32.ofInt (-1) = iI (-1) from rfl, iI_add]; exact congrArg iI (by omega))) ?_
              refine aw_goto hX 6 dL_best_125 (by decide) ?_
              exact ih (t + 1) _ _ _ (by omega) (by omega)
            · refine aw_iload hX dL_best_103 rfl ?_
              refine aw_if_ne hX 118 dL_best_105 (by decide) (fun c_105 => ?_) (fun c_105 => ?_)
              · have hc : SH (lbN a d (t + 1)) = SH (lbN a d t) := congrArg SH (by rw [lbN]; exact if_neg (fun q => q.elim (fun w => c_100 (s1.mpr w)) (fun w => c_105 (s2.mpr w.1))))
                refine aw_iload hX dL_best_118 rfl ?_
                rw [← hc]
                refine aw_istore hX dL_best_120 (Nat.le_of_ble_eq_true rfl) ?_
                refine aw_iinc hX (iI (4 - ((t + 1 : Nat) : Int))) dL_best_122 rfl ((by rw [show Int32.ofInt (-1) = iI (-1) from rfl, iI_add]; exact congrArg iI (by omega))) ?_
                refine aw_goto hX 6 dL_best_125 (by decide) ?_
                exact ih (t + 1) _ _ _ (by omega) (by omega)
              · refine aw_iload hX dL_best_108 rfl ?_
                refine aw_if_gt hX 118 dL_best_110 (by decide) (fun c_110 => ?_) (fun c_110 => ?_)
                · have hc : lbN a d (t + 1) = lbN a d t := (by rw [lbN]; exact if_neg (fun q => q.elim (fun w => c_100 (s1.mpr w)) (fun w => Nat.not_lt.mpr w.2 (s6.mp c_110))))
                  refine aw_iload hX dL_best_118 rfl ?_
                  rw [← hc]
                  refine aw_istore hX dL_best_120 (Nat.le_of_ble_eq_true rfl) ?_
                  refine aw_iinc hX (iI (4 - ((t + 1 : Nat) : Int))) dL_best_122 rfl (by rw [show Int32.ofInt (-1) = iI (-1) from rfl, iI_add]; exact congrArg iI (by omega)) ?_
                  refine aw_goto hX 6 dL_best_125 (by decide) ?_
                  exact ih (t + 1) _ _ _ (by omega) (by omega)
                · have hc : SH (lbN a d (t + 1)) = SH (4 - t) := congrArg SH (by rw [lbN]; first | exact if_pos (Or.inl (s1.mp c_100)) | exact if_pos (Or.inr ⟨s2.mp c_105, Nat.not_lt.mp (fun q => c_110 (s6.mpr q))⟩))
                  refine aw_iload hX dL_best_113 rfl ?_
                  refine aw_goto hX 120 dL_best_115 (by decide) ?_
                  rw [← hc]
                  refine aw_istore hX dL_best_120 (Nat.le_of_ble_eq_true rfl) ?_
                  refine aw_iinc hX (iI (4 - ((t + 1 : Nat) : Int))) dL_best_122 rfl ((by rw [show Int32.ofInt (-1) = iI (-1) from rfl, iI_add]; exact congrArg iI (by omega))) ?_
                  refine aw_goto hX 6 dL_best_125 (by decide) ?_
                  exact ih (t + 1) _ _ _ (by omega) (by omega)
        · refine aw_iconst hX (0) dL_best_16 (by decide) ?_
          refine aw_goto hX 42 dL_best_17 (by decide) ?_
          refine AW.top (y := iI (SH (4 - t))) (by clear ih b1 b2 b3 b4 s1 s2 s3 s4 s5 s6 hlb hlt h2; rcases (show t = 0 ∨ t = 1 ∨ t = 2 ∨ t = 3 ∨ t = 4 by omega) with q | q | q | q | q <;> subst q <;> first | (revert c_13 c_25; decide) | (revert c_13; decide)) ?_
          refine aw_istore hX dL_best_42 (Nat.le_of_ble_eq_true rfl) ?_
          refine aw_aload_n hX dL_best_44 rfl ?_
          refine aw_aload_n hX dL_best_45 rfl ?_
          refine aw_aload_n hX dL_best_46 rfl ?_
          refine aw_aload_n hX dL_best_47 rfl ?_
          refine aw_iload hX dL_best_48 rfl ?_
          refine aw_iload hX dL_best_50 rfl ?_
          refine aw_iconst hX (1) dL_best_52 (by decide) ?_
          refine aw_callSp hX RL rfl (tL_wrong1 _ _ _ e0 e1 e3 e4 H hl hm hSB hk b3 b4) rfl mf_L_wrong mt_L_wrong kl_L_29 rfl (by decide) (Nat.le_of_ble_eq_true rfl) dL_best_53 (by decide) ?_
          refine aw_aload_n hX dL_best_56 rfl ?_
          refine aw_aload_n hX dL_best_57 rfl ?_
          refine aw_aload_n hX dL_best_58 rfl ?_
          refine aw_aload_n hX dL_best_59 rfl ?_
          refine aw_iload hX dL_best_60 rfl ?_
          refine aw_iload hX dL_best_62 rfl ?_
          refine aw_iconst hX (1) dL_best_64 (by decide) ?_
          refine aw_callSp hX RL rfl (tL_wrong1 _ _ _ e0 e1 e3 e4 H hl hm hSB hk b1 b2) rfl mf_L_wrong mt_L_wrong kl_L_29 rfl (by decide) (Nat.le_of_ble_eq_true rfl) dL_best_65 (by decide) ?_
          refine aw_isub hX dL_best_68 ?_
          rw [(ha (4 - t)).2, (ha (lbN a d t)).2]
          refine aw_istore hX dL_best_69 (Nat.le_of_ble_eq_true rfl) ?_
          refine aw_aload_n hX dL_best_71 rfl ?_
          refine aw_aload_n hX dL_best_72 rfl ?_
          refine aw_aload_n hX dL_best_73 rfl ?_
          refine aw_aload_n hX dL_best_74 rfl ?_
          refine aw_iload hX dL_best_75 rfl ?_
          refine aw_iload hX dL_best_77 rfl ?_
          refine aw_iconst hX (0) dL_best_79 (by decide) ?_
          refine aw_callSp hX RL rfl (tL_wrong0 _ _ _ e0 e1 e3 e4 H hl hm hSB hk b3 b4) rfl mf_L_wrong mt_L_wrong kl_L_29 rfl (by decide) (Nat.le_of_ble_eq_true rfl) dL_best_80 (by decide) ?_
          refine aw_aload_n hX dL_best_83 rfl ?_
          refine aw_aload_n hX dL_best_84 rfl ?_
          refine aw_aload_n hX dL_best_85 rfl ?_
          refine aw_aload_n hX dL_best_86 rfl ?_
          refine aw_iload hX dL_best_87 rfl ?_
          refine aw_iload hX dL_best_89 rfl ?_
          refine aw_iconst hX (0) dL_best_91 (by decide) ?_
          refine aw_callSp hX RL rfl (tL_wrong0 _ _ _ e0 e1 e3 e4 H hl hm hSB hk b1 b2) rfl mf_L_wrong mt_L_wrong kl_L_29 rfl (by decide) (Nat.le_of_ble_eq_true rfl) dL_best_92 (by decide) ?_
          refine aw_isub hX dL_best_95 ?_
          rw [(hd (4 - t)).2, (hd (lbN a d t)).2]
          refine aw_istore hX dL_best_96 (Nat.le_of_ble_eq_true rfl) ?_
          refine aw_iload hX dL_best_98 rfl ?_
          refine aw_if_lt hX 113 dL_best_100 (by decide) (fun c_100 => ?_) (fun c_100 => ?_)
          · have hc : SH (lbN a d (t + 1)) = SH (4 - t) := congrArg SH (by rw [lbN]; first | exact if_pos (Or.inl (s1.mp c_100)) | exact if_pos (Or.inr ⟨s2.mp c_105, Nat.not_lt.mp (fun q => c_110 (s6.mpr q))⟩))
            refine aw_iload hX dL_best_113 rfl ?_
            refine aw_goto hX 120 dL_best_115 (by decide) ?_
            rw [← hc]
            refine aw_istore hX dL_best_120 (Nat.le_of_ble_eq_true rfl) ?_
            refine aw_iinc hX (iI (4 - ((t + 1 : Nat) : Int))) dL_best_122 rfl ((by rw [show Int32.ofInt (-1) = iI (-1) from rfl, iI_add]; exact congrArg iI (by omega))) ?_
            refine aw_goto hX 6 dL_best_125 (by decide) ?_
            exact ih (t + 1) _ _ _ (by omega) (by omega)
          · refine aw_iload hX dL_best_103 rfl ?_
            refine aw_if_ne hX 118 dL_best_105 (by decide) (fun c_105 => ?_) (fun c_105 => ?_)
            · have hc : SH (lbN a d (t + 1)) = SH (lbN a d t) := congrArg SH (by rw [lbN]; exact if_neg (fun q => q.elim (fun w => c_100 (s1.mpr w)) (fun w => c_105 (s2.mpr w.1))))
              refine aw_iload hX dL_best_118 rfl ?_
              rw [← hc]
              refine aw_istore hX dL_best_120 (Nat.le_of_ble_eq_true rfl) ?_
              refine aw_iinc hX (iI (4 - ((t + 1 : Nat) : Int))) dL_best_122 rfl ((by rw [show Int32.ofInt (-1) = iI (-1) from rfl, iI_add]; exact congrArg iI (by omega))) ?_
              refine aw_goto hX 6 dL_best_125 (by decide) ?_
              exact ih (t + 1) _ _ _ (by omega) (by omega)
            · refine aw_iload hX dL_best_108 rfl ?_
              refine aw_if_gt hX 118 dL_best_110 (by decide) (fun c_110 => ?_) (fun c_110 => ?_)
              · have hc : lbN a d (t + 1) = lbN a d t := (by rw [lbN]; exact if_neg (fun q => q.elim (fun w => c_100 (s1.mpr w)) (fun w => Nat.not_lt.mpr w.2 (s6.mp c_110))))
                refine aw_iload hX dL_best_118 rfl ?_
                rw [← hc]
                refine aw_istore hX dL_best_120 (Nat.le_of_ble_eq_true rfl) ?_
                refine aw_iinc hX (iI (4 - ((t + 1 : Nat) : Int))) dL_best_122 rfl (by rw [show Int32.ofInt (-1) = iI (-1) from rfl, iI_add]; exact congrArg iI (by omega)) ?_
                refine aw_goto hX 6 dL_best_125 (by decide) ?_
                exact ih (t + 1) _ _ _ (by omega) (by omega)
              · have hc : SH (lbN a d (t + 1)) = SH (4 - t) := congrArg SH (by rw [lbN]; first | exact if_pos (Or.inl (s1.mp c_100)) | exact if_pos (Or.inr ⟨s2.mp c_105, Nat.not_lt.mp (fun q => c_110 (s6.mpr q))⟩))
                refine aw_iload hX dL_best_113 rfl ?_
                refine aw_goto hX 120 dL_best_115 (by decide) ?_
                rw [← hc]
                refine aw_istore hX dL_best_120 (Nat.le_of_ble_eq_true rfl) ?_
                refine aw_iinc hX (iI (4 - ((t + 1 : Nat) : Int))) dL_best_122 rfl ((by rw [show Int32.ofInt (-1) = iI (-1) from rfl, iI_add]; exact congrArg iI (by omega))) ?_
                refine aw_goto hX 6 dL_best_125 (by decide) ?_
                exact ih (t + 1) _ _ _ (by omega) (by omega)
  refine aw_iconst hX (2) dL_best_0 (by decide) ?_
  refine aw_istore hX dL_best_1 (Nat.le_of_ble_eq_true rfl) ?_
  refine aw_iconst hX (4) dL_best_3 (by decide) ?_
  refine aw_istore hX dL_best_4 (Nat.le_of_ble_eq_true rfl) ?_
  exact loop 6 0 _ _ _ (by decide) (by decide)
end LLOOK
