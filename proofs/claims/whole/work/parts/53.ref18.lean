/-! the reference: the next order -/
theorem sw_ag {z : Nat} {f : IF} {q : Nat → Nat} (h : ∀ i, i < z → f i = nI (q i)) {i j : Nat} (hi : i < z) (hj : j < z) : ∀ k, k < z → upd (upd f i (f j)) j (f i) k = nI (swn q i j k) := fun k hk => by
  unfold swn
  by_cases e : k = j
  · subst e
    rw [pk_us, uN_s]
    exact h i hi
  · rw [pk_un e, uN_n e]
    by_cases e2 : k = i
    · subst e2
      rw [pk_us, uN_s]
      exact h j hj
    · rw [pk_un e2, uN_n e2]
      exact h k hk
theorem swn_in {z m : Nat} {q : Nat → Nat} (h : ∀ i, i < z → q i < m) {i j : Nat} (hi : i < z) (hj : j < z) : ∀ k, k < z → swn q i j k < m := fun k hk => by
  unfold swn updN
  split
  · exact h i hi
  · split
    · exact h j hj
    · exact h k hk
theorem fIn_in (q : Nat → Nat) : ∀ a, fIn q a ≤ a
  | 0 => Nat.le_refl _
  | a + 1 => by
    rw [fIn]
    split
    · exact Nat.le_succ_of_le (fIn_in q a)
    · exact Nat.le_refl _
theorem fJn_in (q : Nat → Nat) (i : Nat) : ∀ j, fJn q i j ≤ j
  | 0 => Nat.le_refl _
  | j + 1 => by
    rw [fJn]
    split
    · exact Nat.le_succ_of_le (fJn_in q i j)
    · exact Nat.le_refl _
section REF18
variable {h : HP} {y : Nat} {s : IF} {ps ty sp om : Nat}
theorem tX10_swaps (l : Launch) (E : EV) (n : Nat) (H : HN h y s ps ty sp om) {f : IF} (hf : h (y + 9) = some (cI 5 f)) {i j : Nat} (hi : i < 5) (hj : j < 5) : MX10_swaps l E n h [.ref y, .int (nI i), .int (nI j)] (fun r h' => r = none ∧ h' = hset h (y + 9) (cI 5 (upd (upd f i (f j)) j (f i)))) := by
  obtain ⟨e0, e1⟩ := id H
  have g := H.off (a := y + 9) (cI 5 (upd f i (f j))) (by omega)
  have g0 := g.1
  have g9 := hset_eq h (y + 9) (cI 5 (upd f i (f j)))
  refine AM.intro mf_X10_swaps (by simp [Value.category]) (Nat.le_of_ble_eq_true rfl) (fun X hl hE hnm hX => ?_)
  subst hl
  subst hE
  show AW X _ _ 0 0 0 [some (.ref y), some (.int (nI i)), some (.int (nI j)), none] []
  refine aw_aload_n hX dX10_swaps_0 rfl ?_
  refine gt_X10_34 hX dX10_swaps_1 (by assumption) (by exact rfl) ?_
  refine aw_iload_n hX dX10_swaps_4 rfl ?_
  refine aw_ialdN hX (i) (by assumption) rfl hi (by first | decide | assumption) dX10_swaps_5 ?_
  refine aw_istore_n hX dX10_swaps_6 (Nat.le_of_ble_eq_true rfl) ?_
  refine aw_aload_n hX dX10_swaps_7 rfl ?_
  refine gt_X10_34 hX dX10_swaps_8 (by assumption) (by exact rfl) ?_
  refine aw_iload_n hX dX10_swaps_11 rfl ?_
  refine aw_aload_n hX dX10_swaps_12 rfl ?_
  refine gt_X10_34 hX dX10_swaps_13 (by assumption) (by exact rfl) ?_
  refine aw_iload_n hX dX10_swaps_16 rfl ?_
  refine aw_ialdN hX (j) (by assumption) rfl hj (by first | decide | assumption) dX10_swaps_17 ?_
  refine aw_iastN hX (i) (by assumption) rfl hi (by first | decide | assumption) dX10_swaps_18 ?_
  refine aw_aload_n hX dX10_swaps_19 rfl ?_
  refine gt_X10_34 hX dX10_swaps_20 (by assumption) (by exact rfl) ?_
  refine aw_iload_n hX dX10_swaps_23 rfl ?_
  refine aw_iload_n hX dX10_swaps_24 rfl ?_
  refine aw_iastN hX (j) (by assumption) rfl hj (by first | decide | assumption) dX10_swaps_25 ?_
  exact aw_vret hX rfl rfl rfl rfl dX10_swaps_26 (by exact ⟨rfl, hset_hset _ _ _ _⟩)
theorem tX10_goesOn (l : Launch) (E : EV) (n : Nat) {z : Nat} (H : HN h y s ps ty sp z) (hz : 1 ≤ z) (hz5 : z ≤ 5) {f : IF} (hf : h (y + 9) = some (cI 5 f)) {q : Nat → Nat} (hq : ∀ i, i < z → f i = nI (q i)) (hq8 : ∀ i, i < z → q i < 8) : MX10_goesOn l E n h [.ref y] (fun r h' => (fIn q (z - 1) = 0 ∧ r = some (.int 0) ∧ h' = h) ∨ (¬ fIn q (z - 1) = 0 ∧ r = some (.int 1) ∧ ∃ f', h' = hset h (y + 9) (cI 5 f') ∧ ∀ i, i < z → f' i = nI (rvn 5 (swn q (fIn q (z - 1) - 1) (fJn q (fIn q (z - 1) - 1) (z - 1))) (fIn q (z - 1)) (z - 1) i))) := by
  obtain ⟨e0, e1⟩ := id H
  refine AM.intro mf_X10_goesOn (by simp [Value.category]) (Nat.le_of_ble_eq_true rfl) (fun X hl hE hnm hX => ?_)
  subst hl
  subst hE
  show AW X _ _ 0 0 0 [some (.ref y), none, none, none, none] []
  have loopR : ∀ (m lo hi : Nat) (p : Nat → Nat) (f' : IF) (x1 x2 : Option Value), ¬ fIn q (z - 1) = 0 → rvn 5 (swn q (fIn q (z - 1) - 1) (fJn q (fIn q (z - 1) - 1) (z - 1))) (fIn q (z - 1)) (z - 1) = rvn m p lo hi → hi < z → lo ≤ z → hi < lo + 2 * m → (∀ i, i < z → f' i = nI (p i)) → AW X n (hset h (y + 9) (cI 5 f')) 0 0 86 [some (.ref y), x1, x2, some (.int (nI lo)), some (.int (nI hi))] [] := by
    intro m
    induction m with
    | zero =>
      intro lo hi p f' x1 x2 h0 h1 h2 h3 h4 h5
      refine aw_iload_n hX dX10_goesOn_86 rfl ?_
      refine aw_iload hX dX10_goesOn_87 rfl ?_
      refine aw_icmp_ge hX 108 dX10_goesOn_89 (by decide) (fun c_89 => ?_) (fun c_89 => ?_)
      · have n_89 : hi ≤ lo := (nI_leI (a := hi) (b := lo) (by omega) (by omega)).mp c_89
        refine aw_iconst hX (1) dX10_goesOn_108 (by decide) ?_
        exact aw_zret hX rfl (by first | exact Or.inl rfl | exact Or.inr rfl | assumption) rfl rfl rfl dX10_goesOn_109 (by exact Or.inr ⟨h0, rfl, f', rfl, by rw [h1]; exact h5⟩)
      · have n_89 : ¬ hi ≤ lo := fun q_ => c_89 ((nI_leI (a := hi) (b := lo) (by omega) (by omega)).mpr q_)
        exact absurd n_89 (by omega)
    | succ m ih =>
      intro lo hi p f' x1 x2 h0 h1 h2 h3 h4 h5
      have g := H.off (a := y + 9) (cI 5 f') (by omega)
      have g0 := g.1
      have g9 := hset_eq h (y + 9) (cI 5 f')
      replace h1 := h1.trans (show rvn (m + 1) p lo hi = if lo < hi then rvn m (swn p lo hi) (lo + 1) (hi - 1) else p from rfl)
      refine aw_iload_n hX dX10_goesOn_86 rfl ?_
      refine aw_iload hX dX10_goesOn_87 rfl ?_
      refine aw_icmp_ge hX 108 dX10_goesOn_89 (by decide) (fun c_89 => ?_) (fun c_89 => ?_)
      · have n_89 : hi ≤ lo := (nI_leI (a := hi) (b := lo) (by omega) (by omega)).mp c_89
        rw [if_neg (show ¬ lo < hi by omega)] at h1
        refine aw_iconst hX (1) dX10_goesOn_108 (by decide) ?_
        exact aw_zret hX rfl (by first | exact Or.inl rfl | exact Or.inr rfl | assumption) rfl rfl rfl dX10_goesOn_109 (by exact Or.inr ⟨h0, rfl, f', rfl, by rw [h1]; exact h5⟩)
      · have n_89 : ¬ hi ≤ lo := fun q_ => c_89 ((nI_leI (a := hi) (b := lo) (by omega) (by omega)).mpr q_)
        rw [if_pos (show lo < hi by omega)] at h1
        refine aw_aload_n hX dX10_goesOn_92 rfl ?_
        refine aw_iload_n hX dX10_goesOn_93 rfl ?_
        refine aw_iload hX dX10_goesOn_94 rfl ?_
        refine aw_callV0 hX RX10 rfl (tX10_swaps _ _ _ g g9 (i := lo) (j := hi) (by omega) (by omega)) rfl mf_X10_swaps mi_X10_swaps ms_X10_swaps kl_X10_166 (by assumption) rfl rfl (by decide) (Nat.le_of_ble_eq_true rfl) dX10_goesOn_96 (by decide) (fun v_96 h_96 p_96 => ?_)
        obtain ⟨rfl, rfl⟩ := p_96
        rw [hset_hset]
        refine aw_iinc hX (nI (lo + 1)) dX10_goesOn_99 rfl (nI_1 lo) ?_
        refine aw_iinc hX (nI (hi - 1)) dX10_goesOn_102 rfl (sb_m1 (by omega)) ?_
        refine aw_goto hX 86 dX10_goesOn_105 (by decide) ?_
        exact ih (lo + 1) (hi - 1) (swn p lo hi) _ x1 x2 h0 h1 (by omega) (by omega) (by omega) (sw_ag h5 (by omega) (by omega))
  have loopJ : ∀ (j b : Nat) (x3 x4 : Option Value), fIn q (z - 1) = b + 1 → ¬ q (b + 1) < q b → b + 1 ≤ j → j ≤ z - 1 → fJn q b (z - 1) = fJn q b j → AW X n h 0 0 47 [some (.ref y), some (.int (nI b)), some (.int (nI j)), x3, x4] [] := by
    intro j
    induction j with
    | zero => intro b x3 x4 h0 h1 h2; omega
    | succ j ih =>
      intro b x3 x4 h0 h1 h2 h3 h4
      have q1 := hq8 (j + 1) (by omega)
      have q2 := hq8 b (by omega)
      replace h4 := h4.trans (show fJn q b (j + 1) = if q (j + 1) < q b then fJn q b j else j + 1 from rfl)
      refine aw_aload_n hX dX10_goesOn_47 rfl ?_
      refine gt_X10_34 hX dX10_goesOn_48 (by assumption) (by exact rfl) ?_
      refine aw_iload_n hX dX10_goesOn_51 rfl ?_
      refine aw_ialdN hX (j + 1) (by assumption) rfl (by omega) (by first | decide | assumption) dX10_goesOn_52 ?_
      rw [hq (j + 1) (by omega)]
      refine aw_aload_n hX dX10_goesOn_53 rfl ?_
      refine gt_X10_34 hX dX10_goesOn_54 (by assumption) (by exact rfl) ?_
      refine aw_iload_n hX dX10_goesOn_57 rfl ?_
      refine aw_ialdN hX (b) (by assumption) rfl (by omega) (by first | decide | assumption) dX10_goesOn_58 ?_
      rw [hq b (by omega)]
      refine aw_icmp_ge hX 68 dX10_goesOn_59 (by decide) (fun c_59 => ?_) (fun c_59 => ?_)
      · have n_59 : q b ≤ q (j + 1) := (nI_leI (a := q b) (b := q (j + 1)) (by omega) (by omega)).mp c_59
        rw [if_neg (show ¬ q (j + 1) < q b by omega)] at h4
        refine aw_aload_n hX dX10_goesOn_68 rfl ?_
        refine aw_iload_n hX dX10_goesOn_69 rfl ?_
        refine aw_iload_n hX dX10_goesOn_70 rfl ?_
        refine aw_callV0 hX RX10 rfl (tX10_swaps _ _ _ H hf (i := b) (j := j + 1) (by omega) (by omega)) rfl mf_X10_swaps mi_X10_swaps ms_X10_swaps kl_X10_166 (by assumption) rfl rfl (by decide) (Nat.le_of_ble_eq_true rfl) dX10_goesOn_71 (by decide) (fun v_71 h_71 p_71 => ?_)
        obtain ⟨rfl, rfl⟩ := p_71
        have g0 := (H.off (a := y + 9) (cI 5 (upd (upd f b (f (j + 1))) (j + 1) (f b))) (by omega)).1
        refine aw_iload_n hX dX10_goesOn_74 rfl ?_
        refine aw_iconst hX (1) dX10_goesOn_75 (by decide) ?_
        refine aw_iadd hX dX10_goesOn_76 ?_
        rw [nI_1]
        refine aw_istore_n hX dX10_goesOn_77 (Nat.le_of_ble_eq_true rfl) ?_
        refine aw_aload_n hX dX10_goesOn_78 rfl ?_
        refine gt_X10_163 hX dX10_goesOn_79 (by assumption) (by exact rfl) ?_
        refine aw_iconst hX (1) dX10_goesOn_82 (by decide) ?_
        refine aw_isub hX dX10_goesOn_83 ?_
        rw [show nI z - 1 = nI (z - 1) from pk_sub (b := 1) (by omega)]
        refine aw_istore hX dX10_goesOn_84 (Nat.le_of_ble_eq_true rfl) ?_
        exact loopR 5 (b + 1) (z - 1) (swn q b (j + 1)) _ _ _ (by omega) (by rw [h0, Nat.add_sub_cancel, h4]) (by omega) (by omega) (by omega) (sw_ag hq (by omega) (by omega))
      · have n_59 : ¬ q b ≤ q (j + 1) := fun q_ => c_59 ((nI_leI (a := q b) (b := q (j + 1)) (by omega) (by omega)).mpr q_)
        rw [if_pos (show q (j + 1) < q b by omega)] at h4
        have hne : ¬ j + 1 = b + 1 := fun e => h1 (by rw [← e]; omega)
        refine aw_iinc hX (nI (j + 1 - 1)) dX10_goesOn_62 rfl (sb_m1 (by omega)) ?_
        refine aw_goto hX 47 dX10_goesOn_65 (by decide) ?_
        exact ih b x3 x4 h0 h1 (by omega) (by omega) h4
  have loopI : ∀ (a : Nat) (x2 x3 x4 : Option Value), a ≤ z - 1 → fIn q (z - 1) = fIn q a → AW X n h 0 0 7 [some (.ref y), some (.int (iI ((a : Int) - 1))), x2, x3, x4] [] := by
    intro a
    induction a with
    | zero =>
      intro x2 x3 x4 h1 h2
      have hneg : iI (((0 : Nat) : Int) - 1) < 0 := by decide
      refine aw_iload_n hX dX10_goesOn_7 rfl ?_
      refine aw_if_lt hX 34 dX10_goesOn_8 (by decide) (fun c_8 => ?_) (fun c_8 => ?_)
      · refine aw_iload_n hX dX10_goesOn_34 rfl ?_
        refine aw_if_ge hX 40 dX10_goesOn_35 (by decide) (fun c_35 => ?_) (fun c_35 => ?_)
        · exact absurd hneg (Int32.not_lt.mpr c_35)
        · refine aw_iconst hX (0) dX10_goesOn_38 (by decide) ?_
          exact aw_zret hX rfl (by first | exact Or.inl rfl | exact Or.inr rfl | assumption) rfl rfl rfl dX10_goesOn_39 (by exact Or.inl ⟨h2, rfl, rfl⟩)
      · exact absurd hneg c_8
    | succ b ih =>
      intro x2 x3 x4 h1 h2
      rw [show iI (((b + 1 : Nat) : Int) - 1) = nI b by rw [iI_n]; congr 1; omega]
      have q1 := hq8 (b + 1) (by omega)
      have q2 := hq8 b (by omega)
      replace h2 := h2.trans (show fIn q (b + 1) = if q (b + 1) < q b then fIn q b else b + 1 from rfl)
      refine aw_iload_n hX dX10_goesOn_7 rfl ?_
      refine aw_if_lt hX 34 dX10_goesOn_8 (by decide) (fun c_8 => ?_) (fun c_8 => ?_)
      · exact absurd c_8 (nI_pos (by omega))
      · refine aw_aload_n hX dX10_goesOn_11 rfl ?_
        refine gt_X10_34 hX dX10_goesOn_12 (by assumption) (by exact rfl) ?_
        refine aw_iload_n hX dX10_goesOn_15 rfl ?_
        refine aw_ialdN hX (b) (by assumption) rfl (by omega) (by first | decide | assumption) dX10_goesOn_16 ?_
        rw [hq b (by omega)]
        refine aw_aload_n hX dX10_goesOn_17 rfl ?_
        refine gt_X10_34 hX dX10_goesOn_18 (by assumption) (by exact rfl) ?_
        refine aw_iload_n hX dX10_goesOn_21 rfl ?_
        refine aw_iconst hX (1) dX10_goesOn_22 (by decide) ?_
        refine aw_iadd hX dX10_goesOn_23 ?_
        refine aw_ialdN hX (b + 1) (by assumption) (nI_1 b) (by omega) (by first | decide | assumption) dX10_goesOn_24 ?_
        rw [hq (b + 1) (by omega)]
        refine aw_icmp_le hX 34 dX10_goesOn_25 (by decide) (fun c_25 => ?_) (fun c_25 => ?_)
        · have n_25 : q b ≤ q (b + 1) := (nI_leI (a := q b) (b := q (b + 1)) (by omega) (by omega)).mp c_25
          rw [if_neg (show ¬ q (b + 1) < q b by omega)] at h2
          refine aw_iload_n hX dX10_goesOn_34 rfl ?_
          refine aw_if_ge hX 40 dX10_goesOn_35 (by decide) (fun c_35 => ?_) (fun c_35 => ?_)
          · refine aw_aload_n hX dX10_goesOn_40 rfl ?_
            refine gt_X10_163 hX dX10_goesOn_41 (by assumption) (by exact rfl) ?_
            refine aw_iconst hX (1) dX10_goesOn_44 (by decide) ?_
            refine aw_isub hX dX10_goesOn_45 ?_
            rw [show nI z - 1 = nI (z - 1) from pk_sub (b := 1) (by omega)]
            refine aw_istore_n hX dX10_goesOn_46 (Nat.le_of_ble_eq_true rfl) ?_
            exact loopJ (z - 1) b _ _ h2 (by omega) (by omega) (Nat.le_refl _) rfl
          · exact absurd (nI_pos' (by omega)) c_35
        · have n_25 : ¬ q b ≤ q (b + 1) := fun q_ => c_25 ((nI_leI (a := q b) (b := q (b + 1)) (by omega) (by omega)).mpr q_)
          rw [if_pos (show q (b + 1) < q b by omega)] at h2
          refine aw_iinc hX (iI ((b : Int) - 1)) dX10_goesOn_28 rfl ((by rw [iI_n]; show iI b + iI (-1) = _; rw [iI_add]; congr 1)) ?_
          refine aw_goto hX 7 dX10_goesOn_31 (by decide) ?_
          exact ih _ _ _ (by omega) h2
  refine aw_aload_n hX dX10_goesOn_0 rfl ?_
  refine gt_X10_163 hX dX10_goesOn_1 (by assumption) (by exact rfl) ?_
  refine aw_iconst hX (2) dX10_goesOn_4 (by decide) ?_
  refine aw_isub hX dX10_goesOn_5 ?_
  refine AW.top (y := iI (((z - 1 : Nat) : Int) - 1)) (by show nI z - iI 2 = _; rw [iI_n, iI_sub]; congr 1; omega) ?_
  refine aw_istore_n hX dX10_goesOn_6 (Nat.le_of_ble_eq_true rfl) ?_
  exact loopI (z - 1) _ _ _ (Nat.le_refl _) rfl
theorem tX10_flipsFor (l : Launch) (E : EV) (n : Nat) {z : Nat} (H : HN h y s ps ty sp z) (hz : 1 ≤ z) (hz5 : z ≤ 5) {f ff fb : IF} (hf : h (y + 9) = some (cI 5 f)) (hff : h (y + 11) = some (cI 8 ff)) (hfb : h (y + 12) = some (cI 64 fb)) {q p : Nat → Nat} {w : Nat → Nat → Nat} (hq : ∀ i, i < z → f i = nI (q i)) (hq8 : ∀ i, i < z → q i < 8) (h1 : ∀ i, i < z → ff (q i) = nI (w 0 (p i))) (h2 : ∀ i j, i < z → j < z → fb (8 * q i + q j) = nI (w (p i) (p j))) : MX10_flipsFor l E n h [.ref y] (PR (.int (nI (sc w 0 p z))) h) := by
  obtain ⟨e0, e1⟩ := id H
  refine AM.intro mf_X10_flipsFor (by simp [Value.category]) (Nat.le_of_ble_eq_true rfl) (fun X hl hE hnm hX => ?_)
  subst hl
  subst hE
  show AW X _ _ 0 0 0 [some (.ref y), none, none] []
  have loop : ∀ (g k : Nat), 1 ≤ k → k ≤ z → z - k < g → AW X n h 0 0 14 [some (.ref y), some (.int (nI (sc w 0 p k))), some (.int (nI k))] [] := by
    intro g
    induction g with
    | zero => intro k i1 i2 i3; omega
    | succ g ih =>
      intro k i1 i2 i3
      refine aw_iload_n hX dX10_flipsFor_14 rfl ?_
      refine aw_aload_n hX dX10_flipsFor_15 rfl ?_
      refine gt_X10_163 hX dX10_flipsFor_16 (by assumption) (by exact rfl) ?_
      refine aw_icmp_ge hX 54 dX10_flipsFor_19 (by decide) (fun c_19 => ?_) (fun c_19 => ?_)
      · have n_19 : z ≤ k := (nI_leI (a := z) (b := k) (by omega) (by omega)).mp c_19
        have hk : k = z := by omega
        subst hk
        refine aw_iload_n hX dX10_flipsFor_54 rfl ?_
        exact aw_iret hX rfl rfl rfl rfl dX10_flipsFor_55 (by exact ⟨rfl, rfl⟩)
      · have n_19 : ¬ z ≤ k := fun q_ => c_19 ((nI_leI (a := z) (b := k) (by omega) (by omega)).mpr q_)
        have q1 := hq8 k (by omega)
        have q2 := hq8 (k - 1) (by omega)
        refine aw_iload_n hX dX10_flipsFor_22 rfl ?_
        refine aw_aload_n hX dX10_flipsFor_23 rfl ?_
        refine gt_X10_43 hX dX10_flipsFor_24 (by assumption) (by exact rfl) ?_
        refine aw_bipush hX (8) dX10_flipsFor_27 (by decide) ?_
        refine aw_aload_n hX dX10_flipsFor_29 rfl ?_
        refine gt_X10_34 hX dX10_flipsFor_30 (by assumption) (by exact rfl) ?_
        refine aw_iload_n hX dX10_flipsFor_33 rfl ?_
        refine aw_iconst hX (1) dX10_flipsFor_34 (by decide) ?_
        refine aw_isub hX dX10_flipsFor_35 ?_
        refine aw_ialdN hX (k - 1) (by assumption) (pk_sub (b := 1) (by omega)) (by omega) (by first | decide | assumption) dX10_flipsFor_36 ?_
        rw [hq (k - 1) (by omega)]
        refine aw_imul hX dX10_flipsFor_37 ?_
        refine aw_aload_n hX dX10_flipsFor_38 rfl ?_
        refine gt_X10_34 hX dX10_flipsFor_39 (by assumption) (by exact rfl) ?_
        refine aw_iload_n hX dX10_flipsFor_42 rfl ?_
        refine aw_ialdN hX (k) (by assumption) rfl (by omega) (by first | decide | assumption) dX10_flipsFor_43 ?_
        rw [hq k (by omega)]
        refine aw_iadd hX dX10_flipsFor_44 ?_
        refine aw_ialdN hX (8 * q (k - 1) + q k) (by assumption) (by rw [show (8 : Int32) = nI 8 from rfl, pk_mul, nI_add]) (by omega) (by first | decide | assumption) dX10_flipsFor_45 ?_
        rw [h2 (k - 1) k (by omega) (by omega)]
        refine aw_iadd hX dX10_flipsFor_46 ?_
        refine AW.top (y := nI (sc w 0 p (k + 1))) (by rw [nI_add, sc, if_neg (by omega)]) ?_
        refine aw_istore_n hX dX10_flipsFor_47 (Nat.le_of_ble_eq_true rfl) ?_
        refine aw_iinc hX (nI (k + 1)) dX10_flipsFor_48 rfl (nI_1 k) ?_
        refine aw_goto hX 14 dX10_flipsFor_51 (by decide) ?_
        exact ih (k + 1) (by omega) (by omega) (by omega)
  have q0 := hq8 0 (by omega)
  refine aw_aload_n hX dX10_flipsFor_0 rfl ?_
  refine gt_X10_40 hX dX10_flipsFor_1 (by assumption) (by exact rfl) ?_
  refine aw_aload_n hX dX10_flipsFor_4 rfl ?_
  refine gt_X10_34 hX dX10_flipsFor_5 (by assumption) (by exact rfl) ?_
  refine aw_iconst hX (0) dX10_flipsFor_8 (by decide) ?_
  refine aw_ialdN hX (0) (by assumption) rfl (by decide) (by first | decide | assumption) dX10_flipsFor_9 ?_
  rw [hq 0 (by omega)]
  refine aw_ialdN hX (q 0) (by assumption) rfl q0 (by first | decide | assumption) dX10_flipsFor_10 ?_
  refine AW.top (y := nI (sc w 0 p 1)) (by rw [h1 0 (by omega), sc, sc, if_pos rfl, Nat.zero_add]) ?_
  refine aw_istore_n hX dX10_flipsFor_11 (Nat.le_of_ble_eq_true rfl) ?_
  refine aw_iconst hX (1) dX10_flipsFor_12 (by decide) ?_
  refine aw_istore_n hX dX10_flipsFor_13 (Nat.le_of_ble_eq_true rfl) ?_
  exact loop (z + 1) 1 (by omega) hz (by omega)
end REF18
section REF19
variable {h : HP} {y : Nat} {s : IF} {v : PV} {W P o ps ty sp om : Nat}
def AGF (y : Nat) (h h' : HP) : Prop := ∀ q, ¬ q = y + 6 → ¬ q = y + 7 → ¬ q = y + 11 → ¬ q = y + 12 → h' q = h q
theorem AGF.set {h' : HP} (H : AGF y h h') (a : Nat) (c : AC) (ha : a = y + 6 ∨ a = y + 7 ∨ a = y + 11 ∨ a = y + 12) : AGF y h (hset h' a c) := fun q h1 h2 h3 h4 => (hset_ne _ _ (by omega)).trans (H q h1 h2 h3 h4)
theorem HN.agf {h' : HP} (H : HN h y s ps ty sp om) (e : AGF y h h') : HN h' y s ps ty sp om := ⟨(e _ (by omega) (by omega) (by omega) (by omega)).trans H.1, (e _ (by omega) (by omega) (by omega) (by omega)).trans H.2⟩
theorem tX10_laysFlips (l : Launch) (E : EV) (n : Nat) (H : HN h y s ps ty sp om) (R : RI s v W P o) {f6 f7 f11 f12 : IF} (h6 : h (y + 6) = some (cI 40 f6)) (h7 : h (y + 7) = some (cI 40 f7)) (h11 : h (y + 11) = some (cI 8 f11)) (h12 : h (y + 12) = some (cI 64 f12)) : MX10_laysFlips l E n h [.ref y] (fun r h' => r = none ∧ AGF y h h' ∧ (∃ f, h' (y + 6) = some (cI 40 f)) ∧ (∃ f, h' (y + 7) = some (cI 40 f)) ∧ ∃ ff fb, h' (y + 11) = some (cI 8 ff) ∧ h' (y + 12) = some (cI 64 fb) ∧ (∀ a, a < v.2.2.1.2.2.2.2 → ff a = dfF v (pF W v.2.2.1 a 0) v.1.2.1) ∧ ∀ a b, a < v.2.2.1.2.2.2.2 → b < v.2.2.1.2.2.2.2 → fb (8 * a + b) = dfF v (pF W v.2.2.1 a 0) (pF W v.2.2.1 b 0)) := by
  have r3 : s 4 = nI v.2.2.1.2.2.2.2 := R.1.2.2.1
  have hS := R.2.1.2.2.1
  have hB := R.2.1.2.2.2.2.2
  have hSB := R.2.2.1
  have hZ := R.2.2.2
  have hK8 : v.2.2.1.2.2.2.2 ≤ 8 := hS.1
  refine AM.intro mf_X10_laysFlips (by simp [Value.category]) (Nat.le_of_ble_eq_true rfl) (fun X hl hE hnm hX => ?_)
  subst hl
  subst hE
  show AW X _ _ 0 0 0 [some (.ref y), none, none] []
  have inner : ∀ (g a b : Nat) (f6 f7 ff fb : IF) (hh : HP) (_ : ∀ (f6 f7 ff fb : IF) (hh : HP) (x2 : Option Value), AGF y h hh → hh (y + 6) = some (cI 40 f6) → hh (y + 7) = some (cI 40 f7) → hh (y + 11) = some (cI 8 ff) → hh (y + 12) = some (cI 64 fb) → (∀ c, c < a + 1 → ff c = dfF v (pF W v.2.2.1 c 0) v.1.2.1) → (∀ c d, c < a + 1 → d < v.2.2.1.2.2.2.2 → fb (8 * c + d) = dfF v (pF W v.2.2.1 c 0) (pF W v.2.2.1 d 0)) → AW X n hh 0 0 2 [some (.ref y), some (.int (nI (a + 1))), x2] []), a < v.2.2.1.2.2.2.2 → b ≤ v.2.2.1.2.2.2.2 → v.2.2.1.2.2.2.2 - b < g → AGF y h hh → hh (y + 6) = some (cI 40 f6) → hh (y + 7) = some (cI 40 f7) → hh (y + 11) = some (cI 8 ff) → hh (y + 12) = some (cI 64 fb) → (∀ c, c < a + 1 → ff c = dfF v (pF W v.2.2.1 c 0) v.1.2.1) → (∀ c d, c < a → d < v.2.2.1.2.2.2.2 → fb (8 * c + d) = dfF v (pF W v.2.2.1 c 0) (pF W v.2.2.1 d 0)) → (∀ d, d < b → fb (8 * a + d) = dfF v (pF W v.2.2.1 a 0) (pF W v.2.2.1 d 0)) → AW X n hh 0 0 45 [some (.ref y), some (.int (nI a)), some (.int (nI b))] [] := by
    intro g
    induction g with
    | zero => intro a b f6 f7 ff fb hh kk h1 h2 h3; omega
    | succ g ih =>
      intro a b f6 f7 ff fb hh kk h1 h2 h3 ag k6 k7 k11 k12 q1 q2 q3
      have g1 := H.agf ag
      obtain ⟨e0, e1⟩ := id g1
      refine aw_iload_n hX dX10_laysFlips_45 rfl ?_
      refine aw_aload_n hX dX10_laysFlips_46 rfl ?_
      refine gt_X10_7 hX dX10_laysFlips_47 (by assumption) (by exact rfl) ?_
      refine aw_iconst hX (4) dX10_laysFlips_50 (by decide) ?_
      refine aw_ialdN hX (4) (by assumption) rfl (by decide) (by first | decide | assumption) dX10_laysFlips_51 ?_
      rw [r3]
      refine aw_icmp_ge hX 78 dX10_laysFlips_52 (by decide) (fun c_52 => ?_) (fun c_52 => ?_)
      · have n_52 : v.2.2.1.2.2.2.2 ≤ b := (nI_leI (a := v.2.2.1.2.2.2.2) (b := b) (by omega) (by omega)).mp c_52
        refine aw_iinc hX (nI (a + 1)) dX10_laysFlips_78 rfl (nI_1 a) ?_
        refine aw_goto hX 2 dX10_laysFlips_81 (by decide) ?_
        exact kk f6 f7 ff fb hh _ ag k6 k7 k11 k12 q1 (fun c d hc hd => by by_cases e : c = a; (subst e; exact q3 d (by omega)); exact q2 c d (by omega) hd)
      · have n_52 : ¬ v.2.2.1.2.2.2.2 ≤ b := fun q_ => c_52 ((nI_leI (a := v.2.2.1.2.2.2.2) (b := b) (by omega) (by omega)).mpr q_)
        refine aw_aload_n hX dX10_laysFlips_55 rfl ?_
        refine gt_X10_43 hX dX10_laysFlips_56 (by assumption) (by exact rfl) ?_
        refine aw_bipush hX (8) dX10_laysFlips_59 (by decide) ?_
        refine aw_iload_n hX dX10_laysFlips_61 rfl ?_
        refine aw_imul hX dX10_laysFlips_62 ?_
        refine aw_iload_n hX dX10_laysFlips_63 rfl ?_
        refine aw_iadd hX dX10_laysFlips_64 ?_
        refine aw_aload_n hX dX10_laysFlips_65 rfl ?_
        refine aw_iload_n hX dX10_laysFlips_66 rfl ?_
        refine aw_iload_n hX dX10_laysFlips_67 rfl ?_
        refine aw_callV0 hX RX10 rfl (tX10_betweenOf _ _ _ g1 R h1 (b := b) (by omega) k6 k7) rfl mf_X10_betweenOf mi_X10_betweenOf ms_X10_betweenOf kl_X10_160 (by assumption) rfl rfl (by decide) (Nat.le_of_ble_eq_true rfl) dX10_laysFlips_68 (by decide) (fun v_68 h_68 p_68 => ?_)
        obtain ⟨rfl, f7', f6', rfl⟩ := p_68
        have ag := (ag.set (y + 7) (cI 40 f7') (by omega)).set (y + 6) (cI 40 f6') (by omega)
        have k12 := (hset_ne (hset hh (y + 7) (cI 40 f7')) (q := y + 12) (a := y + 6) (cI 40 f6') (by omega)).trans ((hset_ne hh (q := y + 12) (a := y + 7) (cI 40 f7') (by omega)).trans k12)
        have k11 := (hset_ne (hset hh (y + 7) (cI 40 f7')) (q := y + 11) (a := y + 6) (cI 40 f6') (by omega)).trans ((hset_ne hh (q := y + 11) (a := y + 7) (cI 40 f7') (by omega)).trans k11)
        refine aw_iastN hX (8 * a + b) (by assumption) (by rw [show (8 : Int32) = nI 8 from rfl, pk_mul, nI_add]) (by omega) (by first | decide | assumption) dX10_laysFlips_71 ?_
        refine aw_iinc hX (nI (b + 1)) dX10_laysFlips_72 rfl (nI_1 b) ?_
        refine aw_goto hX 45 dX10_laysFlips_75 (by decide) ?_
        exact ih a (b + 1) f6' f7' ff (upd fb (8 * a + b) (dfF v (pF W v.2.2.1 a 0) (pF W v.2.2.1 b 0))) _ kk h1 (by omega) (by omega) (ag.set _ _ (by omega)) ((hset_ne _ _ (by omega)).trans (hset_eq _ _ _)) ((hset_ne _ _ (by omega)).trans ((hset_ne _ _ (by omega)).trans (hset_eq _ _ _))) ((hset_ne _ _ (by omega)).trans k11) (hset_eq _ _ _) q1 (fun c d hc hd => (pk_un (by omega)).trans (q2 c d hc hd)) (fun d hd => by by_cases e : d = b; (subst e; exact pk_us); exact (pk_un (by omega)).trans (q3 d (by omega)))
  have loop : ∀ (g a : Nat) (f6 f7 ff fb : IF) (hh : HP) (x2 : Option Value), a ≤ v.2.2.1.2.2.2.2 → v.2.2.1.2.2.2.2 - a < g → AGF y h hh → hh (y + 6) = some (cI 40 f6) → hh (y + 7) = some (cI 40 f7) → hh (y + 11) = some (cI 8 ff) → hh (y + 12) = some (cI 64 fb) → (∀ c, c < a → ff c = dfF v (pF W v.2.2.1 c 0) v.1.2.1) → (∀ c d, c < a → d < v.2.2.1.2.2.2.2 → fb (8 * c + d) = dfF v (pF W v.2.2.1 c 0) (pF W v.2.2.1 d 0)) → AW X n hh 0 0 2 [some (.ref y), some (.int (nI a)), x2] [] := by
    intro g
    induction g with
    | zero => intro a f6 f7 ff fb hh x2 h1 h2; omega
    | succ g ih =>
      intro a f6 f7 ff fb hh x2 h1 h2 ag k6 k7 k11 k12 q1 q2
      have g1 := H.agf ag
      obtain ⟨e0, e1⟩ := id g1
      refine aw_iload_n hX dX10_laysFlips_2 rfl ?_
      refine aw_aload_n hX dX10_laysFlips_3 rfl ?_
      refine gt_X10_7 hX dX10_laysFlips_4 (by assumption) (by exact rfl) ?_
      refine aw_iconst hX (4) dX10_laysFlips_7 (by decide) ?_
      refine aw_ialdN hX (4) (by assumption) rfl (by decide) (by first | decide | assumption) dX10_laysFlips_8 ?_
      rw [r3]
      refine aw_icmp_ge hX 84 dX10_laysFlips_9 (by decide) (fun c_9 => ?_) (fun c_9 => ?_)
      · have n_9 : v.2.2.1.2.2.2.2 ≤ a := (nI_leI (a := v.2.2.1.2.2.2.2) (b := a) (by omega) (by omega)).mp c_9
        exact aw_vret hX rfl rfl rfl rfl dX10_laysFlips_84 (by exact ⟨rfl, ag, ⟨_, k6⟩, ⟨_, k7⟩, ff, fb, k11, k12, fun c hc => q1 c (by omega), fun c d hc hd => q2 c d (by omega) hd⟩)
      · have n_9 : ¬ v.2.2.1.2.2.2.2 ≤ a := fun q_ => c_9 ((nI_leI (a := v.2.2.1.2.2.2.2) (b := a) (by omega) (by omega)).mpr q_)
        refine aw_aload_n hX dX10_laysFlips_12 rfl ?_
        refine aw_iload_n hX dX10_laysFlips_13 rfl ?_
        refine aw_iconst hX (0) dX10_laysFlips_14 (by decide) ?_
        refine aw_aload_n hX dX10_laysFlips_15 rfl ?_
        refine gt_X10_25 hX dX10_laysFlips_16 (by assumption) (by exact rfl) ?_
        refine aw_callV0 hX RX10 rfl (tX10_lays _ _ _ g1 R.1 hS (m := a) (by omega) (z := 0) (by decide) (by decide) k6 (by omega)) rfl mf_X10_lays mi_X10_lays ms_X10_lays kl_X10_75 (by assumption) rfl rfl (by decide) (Nat.le_of_ble_eq_true rfl) dX10_laysFlips_19 (by decide) (fun v_19 h_19 p_19 => ?_)
        obtain ⟨rfl, rfl⟩ := p_19
        have g1 := g1.off (a := y + 6) (cI 40 (pF W v.2.2.1 a 0)) (by omega)
        have ag := ag.set (y + 6) (cI 40 (pF W v.2.2.1 a 0)) (by omega)
        have k6 := hset_eq hh (y + 6) (cI 40 (pF W v.2.2.1 a 0))
        have k7 := (hset_ne hh (q := y + 7) (a := y + 6) (cI 40 (pF W v.2.2.1 a 0)) (by omega)).trans k7
        have k11 := (hset_ne hh (q := y + 11) (a := y + 6) (cI 40 (pF W v.2.2.1 a 0)) (by omega)).trans k11
        have k12 := (hset_ne hh (q := y + 12) (a := y + 6) (cI 40 (pF W v.2.2.1 a 0)) (by omega)).trans k12
        obtain ⟨e0, e1⟩ := id g1
        refine aw_aload_n hX dX10_laysFlips_22 rfl ?_
        refine gt_X10_40 hX dX10_laysFlips_23 (by assumption) (by exact rfl) ?_
        refine aw_iload_n hX dX10_laysFlips_26 rfl ?_
        refine aw_aload_n hX dX10_laysFlips_27 rfl ?_
        refine aw_aload_n hX dX10_laysFlips_28 rfl ?_
        refine gt_X10_7 hX dX10_laysFlips_29 (by assumption) (by exact rfl) ?_
        refine aw_bipush hX (9) dX10_laysFlips_32 (by decide) ?_
        refine aw_aload_n hX dX10_laysFlips_34 rfl ?_
        refine gt_X10_25 hX dX10_laysFlips_35 (by assumption) (by exact rfl) ?_
        refine aw_iconst hX (0) dX10_laysFlips_38 (by decide) ?_
        refine aw_callVp hX RX10 rfl (tX10_differs0 _ _ _ g1 R.1 hB hZ k6 (fun c => pF_B7 hSB _ _ _ c) (fun c hc => pF_out hc)) rfl mf_X10_differs mi_X10_differs ms_X10_differs kl_X10_79 (by assumption) rfl rfl (by decide) (Nat.le_of_ble_eq_true rfl) dX10_laysFlips_39 (by decide) ?_
        refine aw_iastN hX (a) (by assumption) rfl (by omega) (by first | decide | assumption) dX10_laysFlips_42 ?_
        refine aw_iconst hX (0) dX10_laysFlips_43 (by decide) ?_
        refine aw_istore_n hX dX10_laysFlips_44 (Nat.le_of_ble_eq_true rfl) ?_
        exact inner (v.2.2.1.2.2.2.2 + 1) a 0 (pF W v.2.2.1 a 0) f7 (upd ff a (dfF v (pF W v.2.2.1 a 0) v.1.2.1)) fb _ (fun f6 f7 ff fb hh x2 ag k6 k7 k11 k12 q1 q2 => ih (a + 1) f6 f7 ff fb hh x2 (by omega) (by omega) ag k6 k7 k11 k12 q1 q2) (by omega) (by omega) (by omega) (ag.set _ _ (by omega)) ((hset_ne _ _ (by omega)).trans k6) ((hset_ne _ _ (by omega)).trans k7) (hset_eq _ _ _) ((hset_ne _ _ (by omega)).trans k12) (fun c hc => by by_cases e : c = a; (subst e; exact pk_us); exact (pk_un e).trans (q1 c (by omega))) q2 (fun d hd => absurd hd (Nat.not_lt_zero d))
  refine aw_iconst hX (0) dX10_laysFlips_0 (by decide) ?_
  refine aw_istore_n hX dX10_laysFlips_1 (Nat.le_of_ble_eq_true rfl) ?_
  exact loop (v.2.2.1.2.2.2.2 + 1) 0 f6 f7 f11 f12 h _ (by omega) (by omega) (fun q _ _ _ _ => rfl) h6 h7 h11 h12 (fun c hc => absurd hc (Nat.not_lt_zero c)) (fun c d hc => absurd hc (Nat.not_lt_zero c))
end REF19
